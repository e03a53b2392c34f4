/-! rows laid by program (wip/tools/genp.py) -/
theorem rkIn_step {G : GT} {x q f : Nat} (hx : gK G x ≠ 0) (hq : gK G q = 0) (hf : f < 1500) : rkFr [f] [] G (sP (sL (sK G q 20) q []) f x (some q)) ∧ gK (sP (sL (sK G q 20) q []) f x (some q)) q = 20 ∧ gL (sP (sL (sK G q 20) q []) f x (some q)) q = [] ∧ gP (sP (sL (sK G q 20) q []) f x (some q)) f x = some q :=
  ⟨fr_sP List.mem_cons_self hf (fr_sLq hq (fr_sKq hq fr_rfl)), (show va_up (gK G) q 20 q = 20 from if_pos rfl), (show va_up (gL (sK G q 20)) q [] q = [] from if_pos rfl), (show u2 (gP (sL (sK G q 20) q [])) f x (some q) f x = some q from u2_s)⟩
theorem rkIn_obj {G : GT} {x q a f g k : Nat} (hx : gK G x ≠ 0) (hq : gK G q = 0) (ha : gK (nO G q k) a = 0) (hk : k < 15 ∧ k ≠ 0) (hg : g / 100 = k ∧ g < 1500) (hf : f / 100 ≠ k ∧ f < 1500) : rkFr [f] [] G (sP (sP (sL (sK (nO G q k) a 20) a []) g q (some a)) f x (some q)) ∧ gK (sP (sP (sL (sK (nO G q k) a 20) a []) g q (some a)) f x (some q)) q = k ∧ gK (sP (sP (sL (sK (nO G q k) a 20) a []) g q (some a)) f x (some q)) a = 20 ∧ gL (sP (sP (sL (sK (nO G q k) a 20) a []) g q (some a)) f x (some q)) a = [] ∧ gP (sP (sP (sL (sK (nO G q k) a 20) a []) g q (some a)) f x (some q)) g q = some a ∧ gP (sP (sP (sL (sK (nO G q k) a 20) a []) g q (some a)) f x (some q)) f x = some q ∧ (∀ j, j / 100 = k → gI (sP (sP (sL (sK (nO G q k) a 20) a []) g q (some a)) f x (some q)) j q = 0) := by
  have hF0 : rkFr [f] [] G (nO G q k) := fr_nO hq hk.1 fr_rfl
  have ha0 := fr_q hF0 ha
  have hqa : q ≠ a := fun z => by
    rw [← z, nO_q] at ha
    exact hk.2 ha
  refine ⟨fr_sP List.mem_cons_self hf.2 (fr_sPq hq hg.2 (fr_sLq ha0 (fr_sKq ha0 hF0))), ?_, (show va_up (gK (nO G q k)) a 20 a = 20 from if_pos rfl), (show va_up (gL (sK (nO G q k) a 20)) a [] a = [] from if_pos rfl), ?_, (show u2 (gP (sP (sL (sK (nO G q k) a 20) a []) g q (some a))) f x (some q) f x = some q from u2_s), fun j hj => nO_I0 hj⟩
  · exact (show va_up (gK (nO G q k)) a 20 q = _ from if_neg hqa).trans nO_q
  · exact (show u2 (gP (sP (sL (sK (nO G q k) a 20) a []) g q (some a))) f x (some q) g q = _ from u2_k (fun z => hf.1 (by rw [← z]; exact hg.1))).trans u2_s
/-- all is empty -/
def rkEm (G : GT) (B : Nat → Nat) : Prop := gL G (B 1) = [] ∧ gL G (B 2) = [] ∧ gL G (B 3) = [] ∧ gL G (B 4) = [] ∧ gL G (B 5) = [] ∧ gL G (B 8) = [] ∧ gL G (B 9) = [] ∧ gI G 901 (B 6) = 0 ∧ gI G 1101 (B 7) = 0
set_option maxHeartbeats 2000000 in
set_option maxRecDepth 100000 in
theorem c_X6_init {E : EV} {l : Launch} {G : GT} {x : Nat} (hk : gK G x = 9) : MT E l yX6_init cX6_init 1 none 4 72 1 3 [.ref x] (G) (fun v G' => v = none ∧ ∃ q, gK G q = 0 ∧ G' = sP (sL (sK G q 20) q []) 900 x (some q)) := by
  refine mt_of (own := RX6) (L := [some (.ref x)]) (by decide +kernel) rfl (Nat.le_of_ble_eq_true rfl) (List.forall_mem_cons.mpr ⟨rfl, (fun _ h => absurd h List.not_mem_nil)⟩) rfl ?_
  intro p e s m args below meth c C hin
  refine x_wf (fun hw => ?_)
  refine x_aload_n 1 C dX6_init_0 rfl rfl ?_
  refine x_objInit 4 C ob_X6_3 ⟨Nat.le_of_ble_eq_true rfl, Nat.le_of_ble_eq_true rfl⟩ dX6_init_1 rfl ?_
  refine x_aload_n 5 C dX6_init_4 rfl rfl ?_
  refine x_newL (kc0 := 0) (ks0 := 0) 12 C nwd_X6_9 vw_X6_11 iw_Jx4a65c_init_da8c8 dX6_init_5 dX6_init_8 dX6_init_9 rfl ⟨Nat.le_of_ble_eq_true rfl, Nat.le_of_ble_eq_true rfl⟩ (Nat.le_of_ble_eq_true rfl) ⟨by omega, by omega⟩ (fun q5 hq5 => ?_)
  have hkq : gK (sL (sK G q5 20) q5 []) x = 9 := (if_neg (fun z => by (have z2 : gK G q5 = 0 := hq5; rw [← z] at z2; omega))).trans hk
  refine x_putO 15 900 C fw_X6_12 (fun _ => hin) dX6_init_12 rfl rfl rfl rfl (by assumption) ?_
  exact x_ret C dX6_init_15 ⟨rfl, q5, hq5, rfl⟩
set_option maxHeartbeats 2000000 in
set_option maxRecDepth 100000 in
theorem c_X8_init {E : EV} {l : Launch} {G : GT} {x : Nat} (hk : gK G x = 11) : MT E l yX8_init cX8_init 1 none 4 72 1 3 [.ref x] (G) (fun v G' => v = none ∧ ∃ q, gK G q = 0 ∧ G' = sP (sL (sK G q 20) q []) 1100 x (some q)) := by
  refine mt_of (own := RX8) (L := [some (.ref x)]) (by decide +kernel) rfl (Nat.le_of_ble_eq_true rfl) (List.forall_mem_cons.mpr ⟨rfl, (fun _ h => absurd h List.not_mem_nil)⟩) rfl ?_
  intro p e s m args below meth c C hin
  refine x_wf (fun hw => ?_)
  refine x_aload_n 1 C dX8_init_0 rfl rfl ?_
  refine x_objInit 4 C ob_X8_3 ⟨Nat.le_of_ble_eq_true rfl, Nat.le_of_ble_eq_true rfl⟩ dX8_init_1 rfl ?_
  refine x_aload_n 5 C dX8_init_4 rfl rfl ?_
  refine x_newL (kc0 := 0) (ks0 := 0) 12 C nwd_X8_9 vw_X8_11 iw_Jx4a65c_init_da8c8 dX8_init_5 dX8_init_8 dX8_init_9 rfl ⟨Nat.le_of_ble_eq_true rfl, Nat.le_of_ble_eq_true rfl⟩ (Nat.le_of_ble_eq_true rfl) ⟨by omega, by omega⟩ (fun q5 hq5 => ?_)
  have hkq : gK (sL (sK G q5 20) q5 []) x = 11 := (if_neg (fun z => by (have z2 : gK G q5 = 0 := hq5; rw [← z] at z2; omega))).trans hk
  refine x_putO 15 1100 C fw_X8_12 (fun _ => hin) dX8_init_12 rfl rfl rfl rfl (by assumption) ?_
  exact x_ret C dX8_init_15 ⟨rfl, q5, hq5, rfl⟩
set_option maxHeartbeats 2000000 in
set_option maxRecDepth 100000 in
theorem c_X11_init {E : EV} {l : Launch} {G : GT} {x : Nat} (hk : gK G x = 14) : MT E l yX11_init cX11_init 1 none 5 92 9 25 [.ref x] (G) (fun v G' => v = none ∧ ∃ B : Nat → Nat, B 0 = x ∧ rkB G' B ∧ rkEm G' B ∧ rkFr [1400, 1401, 1402, 1403, 1404, 1405, 1406] [] G G') := by
  refine mt_of (own := RX11) (L := [some (.ref x)]) (by decide +kernel) rfl (Nat.le_of_ble_eq_true rfl) (List.forall_mem_cons.mpr ⟨rfl, (fun _ h => absurd h List.not_mem_nil)⟩) rfl ?_
  intro p e s m args below meth c C hin
  refine x_wf (fun hw => ?_)
  refine x_aload_n 1 C dX11_init_0 rfl rfl ?_
  refine x_objInit 4 C ob_X11_1 ⟨Nat.le_of_ble_eq_true rfl, Nat.le_of_ble_eq_true rfl⟩ dX11_init_1 rfl ?_
  refine x_aload_n 5 C dX11_init_4 rfl rfl ?_
  refine x_newL (kc0 := 8) (ks0 := 22) 12 C nwd_X11_7 vw_X11_9 iw_Jx4a65c_init_da8c8 dX11_init_5 dX11_init_8 dX11_init_9 rfl ⟨Nat.le_of_ble_eq_true rfl, Nat.le_of_ble_eq_true rfl⟩ (Nat.le_of_ble_eq_true rfl) ⟨by omega, by omega⟩ (fun q5 hq5 => ?_)
  have hz1 : gK G q5 = 0 := hq5
  have kx1 : gK (sL (sK G q5 20) q5 []) x = 14 := (if_neg (fun z => by (rw [← z] at hz1; omega))).trans hk
  refine x_putO 15 1400 C fw_X11_10 (fun _ => hin) dX11_init_12 rfl rfl rfl rfl (by assumption) ?_
  obtain ⟨A1, hA1⟩ : ∃ z : GT, z = sP (sL (sK G q5 20) q5 []) 1400 x (some q5) := ⟨_, rfl⟩
  refine x_as (G' := A1) hA1 rfl rfl ?_
  obtain ⟨f1, k1, l1, p1⟩ := rkIn_step (f := 1400) (x := x) (show gK G x ≠ 0 by omega) hz1 (by decide)
  rw [← hA1] at f1 k1 l1 p1
  have kA1 : gK A1 x = 14 := (f1.1 x (by omega)).trans hk
  refine x_aload_n 16 C dX11_init_15 rfl rfl ?_
  refine x_newL (kc0 := 7) (ks0 := 19) 23 C nwd_X11_7 vw_X11_9 iw_Jx4a65c_init_da8c8 dX11_init_16 dX11_init_19 dX11_init_20 rfl ⟨Nat.le_of_ble_eq_true rfl, Nat.le_of_ble_eq_true rfl⟩ (Nat.le_of_ble_eq_true rfl) ⟨by omega, by omega⟩ (fun q16 hq16 => ?_)
  have hz2 : gK A1 q16 = 0 := hq16
  have kx2 : gK (sL (sK A1 q16 20) q16 []) x = 14 := (if_neg (fun z => by (rw [← z] at hz2; omega))).trans kA1
  refine x_putO 26 1401 C fw_X11_16 (fun _ => hin) dX11_init_23 rfl rfl rfl rfl (by assumption) ?_
  obtain ⟨A2, hA2⟩ : ∃ z : GT, z = sP (sL (sK A1 q16 20) q16 []) 1401 x (some q16) := ⟨_, rfl⟩
  refine x_as (G' := A2) hA2 rfl rfl ?_
  obtain ⟨f2, k2, l2, p2⟩ := rkIn_step (f := 1401) (x := x) (show gK A1 x ≠ 0 by omega) hz2 (by decide)
  rw [← hA2] at f2 k2 l2 p2
  have kA2 : gK A2 x = 14 := (f2.1 x (by omega)).trans kA1
  refine x_aload_n 27 C dX11_init_26 rfl rfl ?_
  refine x_newL (kc0 := 6) (ks0 := 16) 34 C nwd_X11_7 vw_X11_9 iw_Jx4a65c_init_da8c8 dX11_init_27 dX11_init_30 dX11_init_31 rfl ⟨Nat.le_of_ble_eq_true rfl, Nat.le_of_ble_eq_true rfl⟩ (Nat.le_of_ble_eq_true rfl) ⟨by omega, by omega⟩ (fun q27 hq27 => ?_)
  have hz3 : gK A2 q27 = 0 := hq27
  have kx3 : gK (sL (sK A2 q27 20) q27 []) x = 14 := (if_neg (fun z => by (rw [← z] at hz3; omega))).trans kA2
  refine x_putO 37 1402 C fw_X11_19 (fun _ => hin) dX11_init_34 rfl rfl rfl rfl (by assumption) ?_
  obtain ⟨A3, hA3⟩ : ∃ z : GT, z = sP (sL (sK A2 q27 20) q27 []) 1402 x (some q27) := ⟨_, rfl⟩
  refine x_as (G' := A3) hA3 rfl rfl ?_
  obtain ⟨f3, k3, l3, p3⟩ := rkIn_step (f := 1402) (x := x) (show gK A2 x ≠ 0 by omega) hz3 (by decide)
  rw [← hA3] at f3 k3 l3 p3
  have kA3 : gK A3 x = 14 := (f3.1 x (by omega)).trans kA2
  refine x_aload_n 38 C dX11_init_37 rfl rfl ?_
  refine x_newL (kc0 := 5) (ks0 := 13) 45 C nwd_X11_7 vw_X11_9 iw_Jx4a65c_init_da8c8 dX11_init_38 dX11_init_41 dX11_init_42 rfl ⟨Nat.le_of_ble_eq_true rfl, Nat.le_of_ble_eq_true rfl⟩ (Nat.le_of_ble_eq_true rfl) ⟨by omega, by omega⟩ (fun q38 hq38 => ?_)
  have hz4 : gK A3 q38 = 0 := hq38
  have kx4 : gK (sL (sK A3 q38 20) q38 []) x = 14 := (if_neg (fun z => by (rw [← z] at hz4; omega))).trans kA3
  refine x_putO 48 1403 C fw_X11_22 (fun _ => hin) dX11_init_45 rfl rfl rfl rfl (by assumption) ?_
  obtain ⟨A4, hA4⟩ : ∃ z : GT, z = sP (sL (sK A3 q38 20) q38 []) 1403 x (some q38) := ⟨_, rfl⟩
  refine x_as (G' := A4) hA4 rfl rfl ?_
  obtain ⟨f4, k4, l4, p4⟩ := rkIn_step (f := 1403) (x := x) (show gK A3 x ≠ 0 by omega) hz4 (by decide)
  rw [← hA4] at f4 k4 l4 p4
  have kA4 : gK A4 x = 14 := (f4.1 x (by omega)).trans kA3
  refine x_aload_n 49 C dX11_init_48 rfl rfl ?_
  refine x_newL (kc0 := 4) (ks0 := 10) 56 C nwd_X11_7 vw_X11_9 iw_Jx4a65c_init_da8c8 dX11_init_49 dX11_init_52 dX11_init_53 rfl ⟨Nat.le_of_ble_eq_true rfl, Nat.le_of_ble_eq_true rfl⟩ (Nat.le_of_ble_eq_true rfl) ⟨by omega, by omega⟩ (fun q49 hq49 => ?_)
  have hz5 : gK A4 q49 = 0 := hq49
  have kx5 : gK (sL (sK A4 q49 20) q49 []) x = 14 := (if_neg (fun z => by (rw [← z] at hz5; omega))).trans kA4
  refine x_putO 59 1404 C fw_X11_25 (fun _ => hin) dX11_init_56 rfl rfl rfl rfl (by assumption) ?_
  obtain ⟨A5, hA5⟩ : ∃ z : GT, z = sP (sL (sK A4 q49 20) q49 []) 1404 x (some q49) := ⟨_, rfl⟩
  refine x_as (G' := A5) hA5 rfl rfl ?_
  obtain ⟨f5, k5, l5, p5⟩ := rkIn_step (f := 1404) (x := x) (show gK A4 x ≠ 0 by omega) hz5 (by decide)
  rw [← hA5] at f5 k5 l5 p5
  have kA5 : gK A5 x = 14 := (f5.1 x (by omega)).trans kA4
  refine x_aload_n 60 C dX11_init_59 rfl rfl ?_
  refine x_new (kc0 := 3) (ks0 := 8) 63 9 C nwd_X11_28 rfl rfl dX11_init_60 rfl ⟨by omega, by omega⟩ (fun q60 hq60 => ?_)
  have hz6 : gK A5 q60 = 0 := hq60
  have kn6 : gK (nO A5 q60 9) q60 = 9 := nO_q
  refine x_dup 64 C dX11_init_63 rfl rfl ?_
  refine x_callI (As := []) 67 2 5 C vw_X11_30 iw_X6_init rfl (c_X6_init kn6) dX11_init_64 rfl rfl rfl ⟨Nat.le_of_ble_eq_true rfl, Nat.le_of_ble_eq_true rfl⟩ (Nat.le_of_ble_eq_true rfl) ⟨by omega, by omega⟩ (fun v G' hq => ?_)
  obtain ⟨rfl, a6, ha6, hG9⟩ := hq
  subst hG9
  refine x_as rfl rfl rfl ?_
  have kx6 : gK (sP (sL (sK (nO A5 q60 9) a6 20) a6 []) 900 q60 (some a6)) x = 14 := (if_neg (fun z => by (rw [← z, nO_K (by omega) hz6] at ha6; omega))).trans ((nO_K (by omega) hz6).trans kA5)
  refine x_putO 70 1405 C fw_X11_31 (fun _ => hin) dX11_init_67 rfl rfl rfl rfl (by assumption) ?_
  obtain ⟨A6, hA6⟩ : ∃ z : GT, z = sP (sP (sL (sK (nO A5 q60 9) a6 20) a6 []) 900 q60 (some a6)) 1405 x (some q60) := ⟨_, rfl⟩
  refine x_as (G' := A6) hA6 rfl rfl ?_
  obtain ⟨f6, k6, k6b, l6, p6, p6b, o6⟩ := rkIn_obj (f := 1405) (g := 900) (x := x) (show gK A5 x ≠ 0 by omega) hz6 ha6 (by decide) (by decide) (by decide)
  rw [← hA6] at f6 k6 k6b l6 p6 p6b o6
  have kA6 : gK A6 x = 14 := (f6.1 x (by omega)).trans kA5
  refine x_aload_n 71 C dX11_init_70 rfl rfl ?_
  refine x_new (kc0 := 1) (ks0 := 3) 74 11 C nwd_X11_35 rfl rfl dX11_init_71 rfl ⟨by omega, by omega⟩ (fun q71 hq71 => ?_)
  have hz7 : gK A6 q71 = 0 := hq71
  have kn7 : gK (nO A6 q71 11) q71 = 11 := nO_q
  refine x_dup 75 C dX11_init_74 rfl rfl ?_
  refine x_callI (As := []) 78 0 0 C vw_X11_37 iw_X8_init rfl (c_X8_init kn7) dX11_init_75 rfl rfl rfl ⟨Nat.le_of_ble_eq_true rfl, Nat.le_of_ble_eq_true rfl⟩ (Nat.le_of_ble_eq_true rfl) ⟨by omega, by omega⟩ (fun v G' hq => ?_)
  obtain ⟨rfl, a7, ha7, hG9⟩ := hq
  subst hG9
  refine x_as rfl rfl rfl ?_
  have kx7 : gK (sP (sL (sK (nO A6 q71 11) a7 20) a7 []) 1100 q71 (some a7)) x = 14 := (if_neg (fun z => by (rw [← z, nO_K (by omega) hz7] at ha7; omega))).trans ((nO_K (by omega) hz7).trans kA6)
  refine x_putO 81 1406 C fw_X11_38 (fun _ => hin) dX11_init_78 rfl rfl rfl rfl (by assumption) ?_
  obtain ⟨A7, hA7⟩ : ∃ z : GT, z = sP (sP (sL (sK (nO A6 q71 11) a7 20) a7 []) 1100 q71 (some a7)) 1406 x (some q71) := ⟨_, rfl⟩
  refine x_as (G' := A7) hA7 rfl rfl ?_
  obtain ⟨f7, k7, k7b, l7, p7, p7b, o7⟩ := rkIn_obj (f := 1406) (g := 1100) (x := x) (show gK A6 x ≠ 0 by omega) hz7 ha7 (by decide) (by decide) (by decide)
  rw [← hA7] at f7 k7 k7b l7 p7 p7b o7
  have kA7 : gK A7 x = 14 := (f7.1 x (by omega)).trans kA6
  exact x_ret C dX11_init_81 (by have k1_2 : gK A2 q5 = 20 := (f2.1 q5 (by omega)).trans k1; have l1_2 : gL A2 q5 = [] := (f2.2.2.1 q5 (by omega) List.not_mem_nil).trans l1; have k1_3 : gK A3 q5 = 20 := (f3.1 q5 (by omega)).trans k1_2; have l1_3 : gL A3 q5 = [] := (f3.2.2.1 q5 (by omega) List.not_mem_nil).trans l1_2; have k1_4 : gK A4 q5 = 20 := (f4.1 q5 (by omega)).trans k1_3; have l1_4 : gL A4 q5 = [] := (f4.2.2.1 q5 (by omega) List.not_mem_nil).trans l1_3; have k1_5 : gK A5 q5 = 20 := (f5.1 q5 (by omega)).trans k1_4; have l1_5 : gL A5 q5 = [] := (f5.2.2.1 q5 (by omega) List.not_mem_nil).trans l1_4; have k1_6 : gK A6 q5 = 20 := (f6.1 q5 (by omega)).trans k1_5; have l1_6 : gL A6 q5 = [] := (f6.2.2.1 q5 (by omega) List.not_mem_nil).trans l1_5; have k1_7 : gK A7 q5 = 20 := (f7.1 q5 (by omega)).trans k1_6; have l1_7 : gL A7 q5 = [] := (f7.2.2.1 q5 (by omega) List.not_mem_nil).trans l1_6; have k2_3 : gK A3 q16 = 20 := (f3.1 q16 (by omega)).trans k2; have l2_3 : gL A3 q16 = [] := (f3.2.2.1 q16 (by omega) List.not_mem_nil).trans l2; have k2_4 : gK A4 q16 = 20 := (f4.1 q16 (by omega)).trans k2_3; have l2_4 : gL A4 q16 = [] := (f4.2.2.1 q16 (by omega) List.not_mem_nil).trans l2_3; have k2_5 : gK A5 q16 = 20 := (f5.1 q16 (by omega)).trans k2_4; have l2_5 : gL A5 q16 = [] := (f5.2.2.1 q16 (by omega) List.not_mem_nil).trans l2_4; have k2_6 : gK A6 q16 = 20 := (f6.1 q16 (by omega)).trans k2_5; have l2_6 : gL A6 q16 = [] := (f6.2.2.1 q16 (by omega) List.not_mem_nil).trans l2_5; have k2_7 : gK A7 q16 = 20 := (f7.1 q16 (by omega)).trans k2_6; have l2_7 : gL A7 q16 = [] := (f7.2.2.1 q16 (by omega) List.not_mem_nil).trans l2_6; have k3_4 : gK A4 q27 = 20 := (f4.1 q27 (by omega)).trans k3; have l3_4 : gL A4 q27 = [] := (f4.2.2.1 q27 (by omega) List.not_mem_nil).trans l3; have k3_5 : gK A5 q27 = 20 := (f5.1 q27 (by omega)).trans k3_4; have l3_5 : gL A5 q27 = [] := (f5.2.2.1 q27 (by omega) List.not_mem_nil).trans l3_4; have k3_6 : gK A6 q27 = 20 := (f6.1 q27 (by omega)).trans k3_5; have l3_6 : gL A6 q27 = [] := (f6.2.2.1 q27 (by omega) List.not_mem_nil).trans l3_5; have k3_7 : gK A7 q27 = 20 := (f7.1 q27 (by omega)).trans k3_6; have l3_7 : gL A7 q27 = [] := (f7.2.2.1 q27 (by omega) List.not_mem_nil).trans l3_6; have k4_5 : gK A5 q38 = 20 := (f5.1 q38 (by omega)).trans k4; have l4_5 : gL A5 q38 = [] := (f5.2.2.1 q38 (by omega) List.not_mem_nil).trans l4; have k4_6 : gK A6 q38 = 20 := (f6.1 q38 (by omega)).trans k4_5; have l4_6 : gL A6 q38 = [] := (f6.2.2.1 q38 (by omega) List.not_mem_nil).trans l4_5; have k4_7 : gK A7 q38 = 20 := (f7.1 q38 (by omega)).trans k4_6; have l4_7 : gL A7 q38 = [] := (f7.2.2.1 q38 (by omega) List.not_mem_nil).trans l4_6; have k5_6 : gK A6 q49 = 20 := (f6.1 q49 (by omega)).trans k5; have l5_6 : gL A6 q49 = [] := (f6.2.2.1 q49 (by omega) List.not_mem_nil).trans l5; have k5_7 : gK A7 q49 = 20 := (f7.1 q49 (by omega)).trans k5_6; have l5_7 : gL A7 q49 = [] := (f7.2.2.1 q49 (by omega) List.not_mem_nil).trans l5_6; have k6b_7 : gK A7 a6 = 20 := (f7.1 a6 (by omega)).trans k6b; have l6_7 : gL A7 a6 = [] := (f7.2.2.1 a6 (by omega) List.not_mem_nil).trans l6; have k6_7 : gK A7 q60 = 9 := (f7.1 q60 (by omega)).trans k6; have p1_2 := ((f2.2.1 1400 x (by omega) (by decide)).2).trans p1; have p1_3 := ((f3.2.1 1400 x (by omega) (by decide)).2).trans p1_2; have p1_4 := ((f4.2.1 1400 x (by omega) (by decide)).2).trans p1_3; have p1_5 := ((f5.2.1 1400 x (by omega) (by decide)).2).trans p1_4; have p1_6 := ((f6.2.1 1400 x (by omega) (by decide)).2).trans p1_5; have p1_7 := ((f7.2.1 1400 x (by omega) (by decide)).2).trans p1_6; have p2_3 := ((f3.2.1 1401 x (by omega) (by decide)).2).trans p2; have p2_4 := ((f4.2.1 1401 x (by omega) (by decide)).2).trans p2_3; have p2_5 := ((f5.2.1 1401 x (by omega) (by decide)).2).trans p2_4; have p2_6 := ((f6.2.1 1401 x (by omega) (by decide)).2).trans p2_5; have p2_7 := ((f7.2.1 1401 x (by omega) (by decide)).2).trans p2_6; have p3_4 := ((f4.2.1 1402 x (by omega) (by decide)).2).trans p3; have p3_5 := ((f5.2.1 1402 x (by omega) (by decide)).2).trans p3_4; have p3_6 := ((f6.2.1 1402 x (by omega) (by decide)).2).trans p3_5; have p3_7 := ((f7.2.1 1402 x (by omega) (by decide)).2).trans p3_6; have p4_5 := ((f5.2.1 1403 x (by omega) (by decide)).2).trans p4; have p4_6 := ((f6.2.1 1403 x (by omega) (by decide)).2).trans p4_5; have p4_7 := ((f7.2.1 1403 x (by omega) (by decide)).2).trans p4_6; have p5_6 := ((f6.2.1 1404 x (by omega) (by decide)).2).trans p5; have p5_7 := ((f7.2.1 1404 x (by omega) (by decide)).2).trans p5_6; have p6b_7 := ((f7.2.1 1405 x (by omega) (by decide)).2).trans p6b; have p6_7 := ((f7.2.1 900 q60 (by omega) (by decide)).2).trans p6; exact ⟨rfl, (fun n => [x, q5, q16, q27, q38, q49, q60, q71, a6, a7].getD n 0), rfl, ⟨⟨kA7, k6_7, k7⟩, ⟨k1_7, k2_7, k3_7, k4_7, k5_7, k6b_7, k7b⟩, ⟨p1_7, p2_7, p3_7, p4_7, p5_7, p6b_7, p7b, p6_7, p7⟩, ⟨(fun z => by (have z0 : q5 = q16 := z; have z1 := k1; rw [z0] at z1; omega)), (fun z => by (have z0 : q5 = q27 := z; have z1 := k1_2; rw [z0] at z1; omega)), (fun z => by (have z0 : q5 = q38 := z; have z1 := k1_3; rw [z0] at z1; omega)), (fun z => by (have z0 : q5 = q49 := z; have z1 := k1_4; rw [z0] at z1; omega)), (fun z => by (have z0 : q5 = a6 := z; have z1 := k1_5; rw [z0] at z1; have z2 := ha6; rw [nO_K (by omega) hz6] at z2; omega)), (fun z => by (have z0 : q5 = a7 := z; have z1 := k1_6; rw [z0] at z1; have z2 := ha7; rw [nO_K (by omega) hz7] at z2; omega)), (fun z => by (have z0 : q16 = q27 := z; have z1 := k2; rw [z0] at z1; omega)), (fun z => by (have z0 : q16 = q38 := z; have z1 := k2_3; rw [z0] at z1; omega)), (fun z => by (have z0 : q16 = q49 := z; have z1 := k2_4; rw [z0] at z1; omega)), (fun z => by (have z0 : q16 = a6 := z; have z1 := k2_5; rw [z0] at z1; have z2 := ha6; rw [nO_K (by omega) hz6] at z2; omega)), (fun z => by (have z0 : q16 = a7 := z; have z1 := k2_6; rw [z0] at z1; have z2 := ha7; rw [nO_K (by omega) hz7] at z2; omega)), (fun z => by (have z0 : q27 = q38 := z; have z1 := k3; rw [z0] at z1; omega)), (fun z => by (have z0 : q27 = q49 := z; have z1 := k3_4; rw [z0] at z1; omega)), (fun z => by (have z0 : q27 = a6 := z; have z1 := k3_5; rw [z0] at z1; have z2 := ha6; rw [nO_K (by omega) hz6] at z2; omega)), (fun z => by (have z0 : q27 = a7 := z; have z1 := k3_6; rw [z0] at z1; have z2 := ha7; rw [nO_K (by omega) hz7] at z2; omega)), (fun z => by (have z0 : q38 = q49 := z; have z1 := k4; rw [z0] at z1; omega)), (fun z => by (have z0 : q38 = a6 := z; have z1 := k4_5; rw [z0] at z1; have z2 := ha6; rw [nO_K (by omega) hz6] at z2; omega)), (fun z => by (have z0 : q38 = a7 := z; have z1 := k4_6; rw [z0] at z1; have z2 := ha7; rw [nO_K (by omega) hz7] at z2; omega)), (fun z => by (have z0 : q49 = a6 := z; have z1 := k5; rw [z0] at z1; have z2 := ha6; rw [nO_K (by omega) hz6] at z2; omega)), (fun z => by (have z0 : q49 = a7 := z; have z1 := k5_6; rw [z0] at z1; have z2 := ha7; rw [nO_K (by omega) hz7] at z2; omega)), (fun z => by (have z0 : a6 = a7 := z; have z1 := k6b; rw [z0] at z1; have z2 := ha7; rw [nO_K (by omega) hz7] at z2; omega))⟩⟩, ⟨l1_7, l2_7, l3_7, l4_7, l5_7, l6_7, l7, ((f7.2.1 901 q60 (by omega) (by decide)).1).trans (o6 901 rfl), o7 1101 rfl⟩, fr_tr (fr_wide f1 (fun k z => by simp at z; simp [z]) (fun k z => z)) (fr_tr (fr_wide f2 (fun k z => by simp at z; simp [z]) (fun k z => z)) (fr_tr (fr_wide f3 (fun k z => by simp at z; simp [z]) (fun k z => z)) (fr_tr (fr_wide f4 (fun k z => by simp at z; simp [z]) (fun k z => z)) (fr_tr (fr_wide f5 (fun k z => by simp at z; simp [z]) (fun k z => z)) (fr_tr (fr_wide f6 (fun k z => by simp at z; simp [z]) (fun k z => z)) (fr_wide f7 (fun k z => by simp at z; simp [z]) (fun k z => z)))))))⟩)
