/-! rows laid by program (wip/tools/genp.py) -/
set_option maxHeartbeats 2000000 in
set_option maxRecDepth 100000 in
theorem c_X5_init {E : EV} {l : Launch} {G : GT} {a : Nat} {r : Option Nat} {n1 w1 u1 : Int} (hk : gK G a = 8) (h1 : InR n1) (h2 : InR w1) (h3 : InR u1) : MT E l yX5_init cX5_init 5 none 1 13 0 0 [.ref a, .int (i32 n1), va_rf r, .int (i32 w1), .int (i32 u1)] G (pD none (sI (sI (sP (sI G 800 a n1) 801 a r) 802 a w1) 803 a u1)) := by
  refine mt_of (own := RX5) (L := [some (.ref a), some (.int (i32 n1)), some (va_rf r), some (.int (i32 w1)), some (.int (i32 u1))]) (by decide +kernel) rfl (Nat.le_trans (Nat.le_of_eq (sl_len (List.forall_mem_cons.mpr ⟨rfl, (List.forall_mem_cons.mpr ⟨rfl, (List.forall_mem_cons.mpr ⟨cat_rf, (List.forall_mem_cons.mpr ⟨rfl, (List.forall_mem_cons.mpr ⟨rfl, (fun _ h => absurd h List.not_mem_nil)⟩)⟩)⟩)⟩)⟩))) (Nat.le_of_ble_eq_true rfl)) (List.forall_mem_cons.mpr ⟨rfl, (List.forall_mem_cons.mpr ⟨rfl, (List.forall_mem_cons.mpr ⟨cat_rf, (List.forall_mem_cons.mpr ⟨rfl, (List.forall_mem_cons.mpr ⟨rfl, (fun _ h => absurd h List.not_mem_nil)⟩)⟩)⟩)⟩)⟩) rfl ?_
  intro p e s m args below meth c C hin
  refine x_wf (fun hw => ?_)
  refine x_aload_n 1 C dX5_init_0 rfl rfl ?_
  refine x_objInit 4 C ob_X5_3 ⟨Nat.le_of_ble_eq_true rfl, Nat.le_of_ble_eq_true rfl⟩ dX5_init_1 rfl ?_
  refine x_aload_n 5 C dX5_init_4 rfl rfl ?_
  refine x_iload_n 6 C dX5_init_5 rfl rfl ?_
  refine x_putI 9 800 C fw_X5_9 (fun _ => hin) dX5_init_6 rfl rfl rfl rfl rfl (by assumption) (by first | assumption | exact ⟨by omega, by omega⟩ | exact hw.1 _ _ | omega) ?_
  refine x_aload_n 10 C dX5_init_9 rfl rfl ?_
  refine x_aload_nq 11 C dX5_init_10 rfl rfl ?_
  refine x_putP 14 801 C fw_X5_15 (fun _ => hin) dX5_init_11 rfl rfl rfl rfl (by assumption) ?_
  refine x_aload_n 15 C dX5_init_14 rfl rfl ?_
  refine x_iload_n 16 C dX5_init_15 rfl rfl ?_
  refine x_putI 19 802 C fw_X5_19 (fun _ => hin) dX5_init_16 rfl rfl rfl rfl rfl (by assumption) (by first | assumption | exact ⟨by omega, by omega⟩ | exact hw.1 _ _ | omega) ?_
  refine x_aload_n 20 C dX5_init_19 rfl rfl ?_
  refine x_iload 22 C dX5_init_20 rfl rfl ?_
  refine x_putI 25 803 C fw_X5_22 (fun _ => hin) dX5_init_22 rfl rfl rfl rfl rfl (by assumption) (by first | assumption | exact ⟨by omega, by omega⟩ | exact hw.1 _ _ | omega) ?_
  exact x_ret C dX5_init_25 ⟨rfl, rfl⟩
set_option maxHeartbeats 2000000 in
set_option maxRecDepth 100000 in
theorem c_X11_host {E : EV} {l : Launch} {G : GT} {B : Nat → Nat} {R : RT} (hW : rkW G B R) {a w c1 : Int} (ha : InR a) (hx : InR w) (hl : l.stackTraces = false) : MX E l yX11_host cX11_host 8 (some .int) 7 191 3 41 [.ref (B 0), .int (i32 a), .int (i32 w), .int (i32 c1)] G (fun v G' => v = some (.int (i32 (rHost R a w))) ∧ rHCode R a w = 0 ∧ ((G' = G ∧ ¬ rHFound R a w = -1) ∨ (rHFound R a w = -1 ∧ ∃ q, gK G q = 0 ∧ G' = rkNewH G B R a w q))) (fun nx G' => G' = G ∧ rkX nx (rHCode R a w)) := by
  refine mx_of (own := RX11) (L := [some (.ref (B 0)), some (.int (i32 a)), some (.int (i32 w)), some (.int (i32 c1)), none, none, none, none]) (by decide +kernel) rfl (Nat.le_of_ble_eq_true rfl) (List.forall_mem_cons.mpr ⟨rfl, (List.forall_mem_cons.mpr ⟨rfl, (List.forall_mem_cons.mpr ⟨rfl, (List.forall_mem_cons.mpr ⟨rfl, (fun _ h => absurd h List.not_mem_nil)⟩)⟩)⟩)⟩) rfl ?_
  intro p e s m args below meth c C hin htab
  refine x_wf (fun hw => ?_)
  obtain ⟨hB, hH, hA, hP, hI⟩ := id hW
  obtain ⟨⟨b0, b6, b7⟩, ⟨bk1, bk2, bk3, bk4, bk5, bk8, bk9⟩, ⟨bp0, bp1, bp2, bp3, bp4, bp5, bp6, bp7, bp8⟩, -⟩ := id hB
  obtain ⟨hl1, hh1⟩ := id hH
  obtain ⟨hl2, hh2⟩ := id hA
  obtain ⟨hl3, hh3⟩ := id hP
  obtain ⟨iH, iA, iAd, iHl, iP, iS, hRw, iU⟩ := id hI
  have iH1 := iH.1
  have iA1 := iA.1
  have iA2 := iA.2
  have iP1 := iP.1
  have hdp := rDep_in R a
  refine x_joinK (kc1 := 2) (ks1 := 35) (α := Unit) 14 (fun u => (-1 ≤ a ∧ a < R 3 0)) (fun u => G) (fun u => [some (.ref (B 0)), some (.int (i32 a)), some (.int (i32 w)), some (.int (i32 c1)), none, none, none, none]) (fun u => [va_rf (rkOp G (B 1) a)]) ?_ (fun hJ14 => ?_)
  · intro aa hJ
    obtain ⟨u, rfl⟩ := (⟨aa, rfl⟩ : ∃ z, z = aa)
    (try dsimp only at hJ); (try dsimp only)
    have hfi := rHostOf_in R a w (R 3 0).toNat
    refine x_astoreq 16 C dX11_host_14 rfl rfl rfl ?_
    refine x_iload_n 17 C dX11_host_16 rfl rfl ?_
    refine x_if_lt 20 27 C dX11_host_17 rfl (by decide) (by first | exact hRw _ _ | assumption | exact ⟨by omega, by omega⟩ | exact hw.1 _ _ | omega) (fun h17 => ?_) (fun h17 => ?_)
    · skip
      exact x_throw (text := "no such label") C hl htab tqA (by decide +kernel) dX11_host_27 dX11_host_30 dX11_host_31 dX11_host_33 dX11_host_36 ⟨Nat.le_of_ble_eq_true rfl, Nat.le_of_ble_eq_true rfl⟩ ⟨by omega, by omega⟩ ⟨rfl, rkX2 (rHC2 (by omega) (by omega))⟩
    · skip
      refine x_iload_n 21 C dX11_host_20 rfl rfl ?_
      refine x_sipush 24 C dX11_host_21 rfl (by decide) ?_
      refine x_icmp_le 27 37 C dX11_host_24 rfl (by decide) (by first | exact hRw _ _ | assumption | exact ⟨by omega, by omega⟩ | exact hw.1 _ _ | omega) (by first | exact hRw _ _ | assumption | exact ⟨by omega, by omega⟩ | exact hw.1 _ _ | omega) (fun h24 => ?_) (fun h24 => ?_)
      · skip
        refine x_aload_n 38 C dX11_host_37 rfl rfl ?_
        refine x_aloadq 40 C dX11_host_38 rfl rfl ?_
        refine x_iload_n 41 C dX11_host_40 rfl rfl ?_
        refine x_callV (As := [_, _]) 44 14 2 35 C vw_X11_53 iw_X11_findHost sw_X11_findHost (c_X11_findHost hW hJ hx) dX11_host_41 rfl rfl rfl rfl rfl rfl (by assumption) ⟨Nat.le_of_ble_eq_true rfl, Nat.le_of_ble_eq_true rfl⟩ (Nat.le_of_ble_eq_true rfl) ⟨Nat.le_refl _, Nat.le_refl _⟩ (fun v G' hq => ?_)
        obtain ⟨rfl, hG9⟩ := hq
        replace hG9 := hG9.symm
        subst hG9
        refine x_as rfl rfl rfl ?_
        refine x_astoreq 46 C dX11_host_44 rfl rfl rfl ?_
        refine x_aloadq 48 C dX11_host_46 rfl rfl ?_
        refine x_ifnull 51 57 C dX11_host_48 rfl (by decide) (fun h48 => ?_) (fun a48 h48 => ?_)
        · skip
          have n48 := rkOp_none h48
          refine x_joinv 73 (fun vJ => vJ = rDep R a) ?_ (fun hJ73 => ?_)
          · intro vJ hJ
            subst hJ
            refine x_istore 75 C dX11_host_73 rfl rfl rfl ?_
            refine x_aload_n 76 C dX11_host_75 rfl rfl ?_
            refine x_getO 79 1400 C fr_X11_10 dX11_host_76 rfl rfl rfl rfl (by assumption) (by assumption) ?_
            refine x_callL (As := []) (ci := 2) 82 2 35 C vw_X11_66 iw_Jx4a65c_size_8abf5 sw_Jx4a65c_size_8abf5 (c_sizev (by assumption) hl1) dX11_host_79 rfl rfl rfl rfl rfl (Or.inr (Or.inr ⟨rfl, (by assumption)⟩)) ⟨Nat.le_of_ble_eq_true rfl, Nat.le_of_ble_eq_true rfl⟩ (Nat.le_of_ble_eq_true rfl) ⟨Nat.le_refl _, Nat.le_refl _⟩ (fun v G' hq => ?_)
            obtain ⟨rfl, hG9⟩ := hq
            replace hG9 := hG9.symm
            subst hG9
            refine x_as rfl rfl rfl ?_
            refine x_bipush 84 C dX11_host_82 rfl (by decide) ?_
            refine x_icmp_ge 87 93 C dX11_host_84 rfl (by decide) (by first | exact hRw _ _ | assumption | exact ⟨by omega, by omega⟩ | exact hw.1 _ _ | omega) (by first | exact hRw _ _ | assumption | exact ⟨by omega, by omega⟩ | exact hw.1 _ _ | omega) (fun h84 => ?_) (fun h84 => ?_)
            · skip
              exact x_throw (text := "no room for this host") C hl htab tqS (by decide +kernel) dX11_host_93 dX11_host_96 dX11_host_97 dX11_host_99 dX11_host_102 ⟨Nat.le_of_ble_eq_true rfl, Nat.le_of_ble_eq_true rfl⟩ ⟨by omega, by omega⟩ ⟨rfl, rkX3 (rHC3 (by omega) (by omega) n48 (by omega))⟩
            · skip
              refine x_iload 89 C dX11_host_87 rfl rfl ?_
              refine x_iconst 90 C dX11_host_89 rfl ?_
              refine x_icmp_le 93 103 C dX11_host_90 rfl (by decide) (by first | exact hRw _ _ | assumption | exact ⟨by omega, by omega⟩ | exact hw.1 _ _ | omega) (by first | exact hRw _ _ | assumption | exact ⟨by omega, by omega⟩ | exact hw.1 _ _ | omega) (fun h90 => ?_) (fun h90 => ?_)
              · skip
                refine x_new (kc0 := 1) (ks0 := 30) 106 8 C nwd_X11_58 rfl rfl dX11_host_103 rfl ⟨by omega, by omega⟩ (fun q103 hq103 => ?_)
                have nqk : gK (nO G q103 8) q103 = 8 := nO_q
                have nk1 := (nO_K (k := 8) (show gK G (B 1) ≠ 0 by omega) hq103).trans bk1
                have np1 := (nO_P (G := G) (q := q103) (k := 8) (j := 1400) (x := B 0) (by decide)).trans bp0
                have nb0 := (nO_K (k := 8) (show gK G (B 0) ≠ 0 by omega) hq103).trans b0
                refine x_dup 107 C dX11_host_106 rfl rfl ?_
                refine x_aload_n 108 C dX11_host_107 rfl rfl ?_
                refine x_getO 111 1400 C fr_X11_10 dX11_host_108 rfl rfl rfl rfl (by assumption) (by assumption) ?_
                refine x_callL (As := []) (ci := 2) 114 1 30 C vw_X11_66 iw_Jx4a65c_size_8abf5 sw_Jx4a65c_size_8abf5 (c_sizev (by assumption) hl1) dX11_host_111 rfl rfl rfl rfl rfl (Or.inr (Or.inr ⟨rfl, (by assumption)⟩)) ⟨Nat.le_of_ble_eq_true rfl, Nat.le_of_ble_eq_true rfl⟩ (Nat.le_of_ble_eq_true rfl) ⟨Nat.le_refl _, Nat.le_refl _⟩ (fun v G' hq => ?_)
                obtain ⟨rfl, hG9⟩ := hq
                replace hG9 := hG9.symm
                subst hG9
                refine x_as rfl rfl rfl ?_
                refine x_aloadq 116 C dX11_host_114 rfl rfl ?_
                refine x_iload_n 117 C dX11_host_116 rfl rfl ?_
                refine x_iload 119 C dX11_host_117 rfl rfl ?_
                refine x_callI (As := [_, _, _, _]) 122 1 30 C vw_X11_75 iw_X5_init rfl (c_X5_init (r := rkOp G (B 1) a) nqk (hRw _ _) hx ⟨by omega, by omega⟩) dX11_host_119 rfl rfl rfl ⟨Nat.le_of_ble_eq_true rfl, Nat.le_of_ble_eq_true rfl⟩ (Nat.le_of_ble_eq_true rfl) ⟨Nat.le_refl _, Nat.le_refl _⟩ (fun v G' hq => ?_)
                obtain ⟨rfl, hG9⟩ := hq
                replace hG9 := hG9.symm
                subst hG9
                refine x_as rfl rfl rfl ?_
                refine x_astore 124 C dX11_host_122 rfl rfl rfl ?_
                refine x_aload_n 125 C dX11_host_124 rfl rfl ?_
                refine x_getO 128 1400 C fr_X11_10 dX11_host_125 rfl rfl rfl rfl (by assumption) (by assumption) ?_
                refine x_aload 130 C dX11_host_128 rfl rfl ?_
                refine x_callL (As := [_]) (ci := 2) 133 0 0 C vw_X11_78 iw_Jx4a65c_add_9ea2d sw_Jx4a65c_add_9ea2d (c_add (ms := 30) (by assumption) (show 3 ≤ gK (nO G q103 8) q103 ∧ gK (nO G q103 8) q103 ≤ 14 by omega) (fun x hx => by (obtain ⟨i, i0, i1, rfl⟩ := rkAt_mem hl1 hx; have hki := (hh1 i i0 i1).1; show 3 ≤ gK (nO G q103 8) _ ∧ gK (nO G q103 8) _ ≤ 14; rw [nO_K (by omega) hq103]; omega)) (show (gL G (B 1)).length ≤ 600 ∧ 10 ≤ 30 ∧ (gL G (B 1)).length + (gL G (B 1)).length / 2 ≤ 30 by omega)) dX11_host_130 rfl rfl rfl rfl rfl (Or.inr (Or.inr ⟨rfl, (by assumption)⟩)) ⟨Nat.le_of_ble_eq_true rfl, Nat.le_of_ble_eq_true rfl⟩ (Nat.le_of_ble_eq_true rfl) ⟨by omega, by omega⟩ (fun v G' hq => ?_)
                obtain ⟨rfl, hG9⟩ := hq
                replace hG9 := hG9.symm
                subst hG9
                refine x_as rfl rfl rfl ?_
                refine x_pop 134 C dX11_host_133 rfl rfl ?_
                refine x_aload 136 C dX11_host_134 rfl rfl ?_
                refine x_getIv 139 800 C fr_X11_57 dX11_host_136 rfl rfl rfl rfl nqk (show u2 (gI (nO G q103 8)) 800 q103 (R 3 0) 800 q103 = _ from u2_s) ?_
                exact x_through (x_iret C dX11_host_139 rfl ⟨vi (by rw [rHV (by omega) (by omega) (rHC0 (by omega) (by omega) (Or.inr (by omega))), if_pos n48]), rHC0 (by omega) (by omega) (Or.inr (by omega)), Or.inr ⟨by rw [rHF (by omega) (by omega)]; exact n48, q103, hq103, rfl⟩⟩)
              · skip
                exact x_throw (text := "no room for this host") C hl htab tqS (by decide +kernel) dX11_host_93 dX11_host_96 dX11_host_97 dX11_host_99 dX11_host_102 ⟨Nat.le_of_ble_eq_true rfl, Nat.le_of_ble_eq_true rfl⟩ ⟨by omega, by omega⟩ ⟨rfl, rkX3 (rHC3 (by omega) (by omega) n48 (by omega))⟩
          · skip
            refine x_aloadq 59 C dX11_host_57 rfl rfl ?_
            refine x_ifnonnull 62 66 C dX11_host_59 rfl (by decide) (fun a59 h59 => ?_) (fun h59 => ?_)
            · skip
              have n59 := rkOp_some h59
              obtain ⟨f1, f2, f3, f4, f5, f6⟩ := hh1 a (by omega) (by omega)
              have hdp2 := rDep_in R (R 4 a.toNat)
              have hds := rDep_step iH (show -1 ≤ a by omega) (by omega) n59.1
              refine x_aload (x := rkAt G (B 1) a) 68 C dX11_host_66 rfl (congrArg (fun z => some (some z)) (vrf_s (by omega))) ?_
              refine x_getIv 71 803 C fr_X11_63 dX11_host_68 rfl rfl rfl rfl (by assumption) (by first | assumption | rfl) ?_
              refine x_iconst 72 C dX11_host_71 rfl ?_
              refine x_iadd 73 C dX11_host_72 rfl ?_
              exact hJ73 _ (by first | (rw [n59, rDep_top]) | omega)
            · skip
              have n59 := rkOp_none h59
              refine x_iconst 63 C dX11_host_62 rfl ?_
              refine x_goto 73 C dX11_host_63 (by decide) ?_
              exact hJ73 _ (by first | (rw [n59, rDep_top]) | omega)
        · skip
          have n48 := rkOp_some h48
          obtain ⟨f1, f2, f3, f4, f5, f6⟩ := hh1 (rHostOf R a w (R 3 0).toNat) (by omega) (by omega)
          refine x_aload (x := rkAt G (B 1) (rHostOf R a w (R 3 0).toNat)) 53 C dX11_host_51 rfl (congrArg (fun z => some (some z)) (vrf_s (by omega))) ?_
          refine x_getIv 56 800 C fr_X11_57 dX11_host_53 rfl rfl rfl rfl (by assumption) (by first | assumption | rfl) ?_
          exact x_through (x_iret C dX11_host_56 rfl ⟨vi (by rw [rHV (by omega) (by omega) (rHC0 (by omega) (by omega) (Or.inl n48.1)), if_neg n48.1]), rHC0 (by omega) (by omega) (Or.inl n48.1), Or.inl ⟨rfl, by rw [rHF (by omega) (by omega)]; exact n48.1⟩⟩)
      · skip
        exact x_throw (text := "no such label") C hl htab tqA (by decide +kernel) dX11_host_27 dX11_host_30 dX11_host_31 dX11_host_33 dX11_host_36 ⟨Nat.le_of_ble_eq_true rfl, Nat.le_of_ble_eq_true rfl⟩ ⟨by omega, by omega⟩ ⟨rfl, rkX2 (rHC2 (by omega) (by omega))⟩
  · skip
    refine x_iload_n 1 C dX11_host_0 rfl rfl ?_
    refine x_iconst 2 C dX11_host_1 rfl ?_
    refine x_icmp_ne 5 9 C dX11_host_2 rfl (by decide) (by first | exact hRw _ _ | assumption | exact ⟨by omega, by omega⟩ | exact hw.1 _ _ | omega) (by first | exact hRw _ _ | assumption | exact ⟨by omega, by omega⟩ | exact hw.1 _ _ | omega) (fun h2 => ?_) (fun h2 => ?_)
    · skip
      refine x_aload_n 10 C dX11_host_9 rfl rfl ?_
      refine x_iload_n 11 C dX11_host_10 rfl rfl ?_
      refine x_callVX (As := [_]) 14 14 2 35 C htab vw_X11_42 iw_X11_hostAt sw_X11_hostAt (c_X11_hostAt hW ha hl) (aw_i 245 (by decide +kernel) rfl) dX11_host_11 rfl rfl rfl rfl rfl rfl (by assumption) ⟨Nat.le_of_ble_eq_true rfl, Nat.le_of_ble_eq_true rfl⟩ (Nat.le_of_ble_eq_true rfl) ⟨by omega, by omega⟩ (fun nx G' hx => (by obtain ⟨rfl, hG8, hn8⟩ := hx; exact ⟨hG8, rkX1 (rHC1 (by omega))⟩)) (fun v G' hq => ?_)
      obtain ⟨rfl, hG9, hq1, hq2⟩ := hq
      replace hG9 := hG9.symm
      subst hG9
      refine x_as rfl rfl rfl ?_
      exact x_as rfl rfl (by (try dsimp only); rw [rkOp_s (by omega)]; rfl) (hJ14 () ⟨by omega, by omega⟩)
    · skip
      refine x_null 6 C dX11_host_5 rfl ?_
      refine x_goto 14 C dX11_host_6 (by decide) ?_
      exact x_as rfl rfl (by rw [h2, rkOp_n]) (x_weak (by omega) (by omega) (hJ14 () ⟨by omega, by omega⟩))
set_option maxHeartbeats 2000000 in
set_option maxRecDepth 100000 in
theorem c_X11_site {E : EV} {l : Launch} {G : GT} {B : Nat → Nat} {R : RT} (hW : rkW G B R) {i : Int} (hx : InR i) (hl : l.stackTraces = false) : MX E l yX11_site cX11_site 2 (some .int) 7 105 1 6 [.ref (B 0), .int (i32 i)] G (fun v G' => v = some (.int (i32 (rSite R i))) ∧ rTogC R i = 0 ∧ G' = G) (fun nx G' => G' = G ∧ rkX nx (rTogC R i)) := by
  refine mx_of (own := RX11) (L := [some (.ref (B 0)), some (.int (i32 i))]) (by decide +kernel) rfl (Nat.le_of_ble_eq_true rfl) (List.forall_mem_cons.mpr ⟨rfl, (List.forall_mem_cons.mpr ⟨rfl, (fun _ h => absurd h List.not_mem_nil)⟩)⟩) rfl ?_
  intro p e s m args below meth c C hin htab
  refine x_wf (fun hw => ?_)
  obtain ⟨hB, hH, hA, hP, hI⟩ := id hW
  obtain ⟨⟨b0, b6, b7⟩, ⟨bk1, bk2, bk3, bk4, bk5, bk8, bk9⟩, ⟨bp0, bp1, bp2, bp3, bp4, bp5, bp6, bp7, bp8⟩, -⟩ := id hB
  obtain ⟨hl1, hh1⟩ := id hH
  obtain ⟨hl2, hh2⟩ := id hA
  obtain ⟨hl3, hh3⟩ := id hP
  obtain ⟨iH, iA, iAd, iHl, iP, iS, hRw, iU⟩ := id hI
  have iH1 := iH.1
  have iA1 := iA.1
  have iA2 := iA.2
  have iP1 := iP.1
  refine x_aload_n 1 C dX11_site_0 rfl rfl ?_
  refine x_iload_n 2 C dX11_site_1 rfl rfl ?_
  refine x_callVX (As := [_]) 5 14 0 0 C htab vw_X11_42 iw_X11_hostAt sw_X11_hostAt (c_X11_hostAt hW hx hl) (aw_i 245 (by decide +kernel) rfl) dX11_site_2 rfl rfl rfl rfl rfl rfl (by assumption) ⟨Nat.le_of_ble_eq_true rfl, Nat.le_of_ble_eq_true rfl⟩ (Nat.le_of_ble_eq_true rfl) ⟨by omega, by omega⟩ (fun nx G' hx => (by obtain ⟨rfl, hG8, hn8⟩ := hx; exact ⟨hG8, rkX1 (if_neg (fun z => hn8 (by have := rLs_t.mp z; omega)))⟩)) (fun v G' hq => ?_)
  obtain ⟨rfl, hG9, hq1, hq2⟩ := hq
  replace hG9 := hG9.symm
  subst hG9
  refine x_as rfl rfl rfl ?_
  obtain ⟨f1, f2, f3, f4, f5, f6⟩ := hh1 i hq1 hq2
  have hc0 : rTogC R i = 0 := if_pos (rLs_t.mpr ⟨by omega, by omega⟩)
  refine x_callV (As := []) 8 8 0 0 C vw_X11_86 iw_X5_siteHost sw_X5_siteHost (c_X5_siteHost hW ⟨by omega, by omega⟩) dX11_site_5 rfl rfl rfl rfl rfl rfl (by assumption) ⟨Nat.le_of_ble_eq_true rfl, Nat.le_of_ble_eq_true rfl⟩ (Nat.le_of_ble_eq_true rfl) ⟨Nat.le_refl _, Nat.le_refl _⟩ (fun v G' hq => ?_)
  obtain ⟨rfl, hG9⟩ := hq
  replace hG9 := hG9.symm
  subst hG9
  refine x_as rfl rfl rfl ?_
  have hs := rSiteOf_in iH hq1 hq2
  obtain ⟨e1, e2, e3, e4, e5, e6⟩ := hh1 (rSiteOf R i) hs.1 hs.2
  refine x_getIv 11 800 C fr_X11_57 dX11_site_8 rfl rfl rfl rfl (by assumption) (by first | assumption | rfl) ?_
  exact x_through (x_iret C dX11_site_11 rfl ⟨vi (by unfold rSite; rw [hc0, if_neg (by decide)]), hc0, rfl⟩)
set_option maxHeartbeats 2000000 in
set_option maxRecDepth 100000 in
theorem c_X11_toggleSuffix {E : EV} {l : Launch} {G : GT} {B : Nat → Nat} {R : RT} (hW : rkW G B R) {i : Int} (hx : InR i) (hl : l.stackTraces = false) : MX E l yX11_toggleSuffix cX11_toggleSuffix 3 (some .boolean) 7 105 1 6 [.ref (B 0), .int (i32 i)] G (fun v G' => v = some (.int (i32 (rTog R i))) ∧ rTogC R i = 0 ∧ G' = sI G 804 (rkAt G (B 1) i) (rTog R i)) (fun nx G' => G' = G ∧ rkX nx (rTogC R i)) := by
  refine mx_of (own := RX11) (L := [some (.ref (B 0)), some (.int (i32 i)), none]) (by decide +kernel) rfl (Nat.le_of_ble_eq_true rfl) (List.forall_mem_cons.mpr ⟨rfl, (List.forall_mem_cons.mpr ⟨rfl, (fun _ h => absurd h List.not_mem_nil)⟩)⟩) rfl ?_
  intro p e s m args below meth c C hin htab
  refine x_wf (fun hw => ?_)
  obtain ⟨hB, hH, hA, hP, hI⟩ := id hW
  obtain ⟨⟨b0, b6, b7⟩, ⟨bk1, bk2, bk3, bk4, bk5, bk8, bk9⟩, ⟨bp0, bp1, bp2, bp3, bp4, bp5, bp6, bp7, bp8⟩, -⟩ := id hB
  obtain ⟨hl1, hh1⟩ := id hH
  obtain ⟨hl2, hh2⟩ := id hA
  obtain ⟨hl3, hh3⟩ := id hP
  obtain ⟨iH, iA, iAd, iHl, iP, iS, hRw, iU⟩ := id hI
  have iH1 := iH.1
  have iA1 := iA.1
  have iA2 := iA.2
  have iP1 := iP.1
  refine x_aload_n 1 C dX11_toggleSuffix_0 rfl rfl ?_
  refine x_iload_n 2 C dX11_toggleSuffix_1 rfl rfl ?_
  refine x_callVX (As := [_]) 5 14 0 0 C htab vw_X11_42 iw_X11_hostAt sw_X11_hostAt (c_X11_hostAt hW hx hl) (aw_i 245 (by decide +kernel) rfl) dX11_toggleSuffix_2 rfl rfl rfl rfl rfl rfl (by assumption) ⟨Nat.le_of_ble_eq_true rfl, Nat.le_of_ble_eq_true rfl⟩ (Nat.le_of_ble_eq_true rfl) ⟨by omega, by omega⟩ (fun nx G' hx => (by obtain ⟨rfl, hG8, hn8⟩ := hx; exact ⟨hG8, rkX1 (if_neg (fun z => hn8 (by have := rLs_t.mp z; omega)))⟩)) (fun v G' hq => ?_)
  obtain ⟨rfl, hG9, hq1, hq2⟩ := hq
  replace hG9 := hG9.symm
  subst hG9
  refine x_as rfl rfl rfl ?_
  obtain ⟨f1, f2, f3, f4, f5, f6⟩ := hh1 i hq1 hq2
  have hc0 : rTogC R i = 0 := if_pos (rLs_t.mpr ⟨by omega, by omega⟩)
  have htv : rTog R i = if R 6 i.toNat = 0 then 1 else 0 := by (unfold rTog; rw [hc0, if_neg (by decide)])
  have ht01 : rTog R i = 0 ∨ rTog R i = 1 := by (rw [htv]; split; exact Or.inr rfl; exact Or.inl rfl)
  refine x_astore_n 6 C dX11_toggleSuffix_5 rfl rfl rfl ?_
  refine x_aload_n 7 C dX11_toggleSuffix_6 rfl rfl ?_
  refine x_joinv 19 (fun vJ => vJ = rTog R i) ?_ (fun hJ19 => ?_)
  · intro vJ hJ
    subst hJ
    refine x_putZ 22 804 C fw_X11_82 (fun h => by cases h) dX11_toggleSuffix_19 rfl rfl rfl rfl (by assumption) (by first | assumption | omega | exact bI_01 _) ?_
    refine x_aload_n 23 C dX11_toggleSuffix_22 rfl rfl ?_
    refine x_getIv 26 804 C fr_X11_82 dX11_toggleSuffix_23 rfl rfl rfl rfl f1 (show u2 (gI G) 804 (rkAt G (B 1) i) (rTog R i) 804 (rkAt G (B 1) i) = _ from u2_s) ?_
    exact x_through (x_iret C dX11_toggleSuffix_26 (nar_01 ht01) ⟨rfl, hc0, rfl⟩)
  · skip
    refine x_aload_n 8 C dX11_toggleSuffix_7 rfl rfl ?_
    refine x_getIv 11 804 C fr_X11_82 dX11_toggleSuffix_8 rfl rfl rfl rfl (by assumption) (by first | assumption | rfl) ?_
    refine x_if_ne 14 18 C dX11_toggleSuffix_11 rfl (by decide) (by first | exact hRw _ _ | assumption | exact ⟨by omega, by omega⟩ | exact hw.1 _ _ | omega) (fun h11 => ?_) (fun h11 => ?_)
    · skip
      refine x_iconst 19 C dX11_toggleSuffix_18 rfl ?_
      exact hJ19 _ (by rw [htv]; first | rw [if_pos h11] | rw [if_neg h11])
    · skip
      refine x_iconst 15 C dX11_toggleSuffix_14 rfl ?_
      refine x_goto 19 C dX11_toggleSuffix_15 (by decide) ?_
      exact hJ19 _ (by rw [htv]; first | rw [if_pos h11] | rw [if_neg h11])
