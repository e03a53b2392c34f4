/-! rows laid by program (wip/tools/genp.py) -/
theorem rPageIs_t {R : RT} {a b : Int} : rPageIs R a b = true ↔ ((0 ≤ a ∧ a ≤ R 7 0 - 1) ∧ (b = -1 ∨ (0 ≤ b ∧ b ≤ R 24 0 - 1))) := by simp [rPageIs, rIsAddress, rIsPage, rLies]
theorem rRedIs_t {R : RT} {a b : Int} : rRedIs R a b = true ↔ ((0 ≤ a ∧ a ≤ R 7 0 - 1) ∧ (b = -1 ∨ (0 ≤ b ∧ b ≤ R 7 0 - 1))) := by simp [rRedIs, rIsAddress, rLies]
theorem rAllIs_t {R : RT} {a b : Int} : rAllIs R a b = true ↔ ((0 ≤ a ∧ a ≤ R 7 0 - 1) ∧ ((-3 ≤ b ∧ b ≤ -1) ∨ (0 ≤ b ∧ b ≤ R 7 0 - 1))) := by simp [rAllIs, rIsAddress, rLies]
theorem rSetIs_t {R : RT} {a d : Int} : rSetIs R a d = true ↔ ((0 ≤ a ∧ a ≤ R 7 0 - 1) ∧ (d = -1 ∨ (0 ≤ d ∧ d ≤ R 3 0 - 1))) := by simp [rSetIs, rIsAddress, rIsHost, rLies]
theorem rSetOk_t {n v w f t : Int} : rSetOk n v w f t = true ↔ ((0 ≤ n ∧ n ≤ 9) ∧ (-1 ≤ v ∧ v ≤ 999) ∧ rIsPath w = true ∧ (0 ≤ f ∧ f ≤ 63) ∧ (-1 ≤ t ∧ t ≤ 1000)) := by simp [rSetOk, rLies]
def rkNewP (G : GT) (B : Nat → Nat) (a b c1 : Int) (q : Nat) : GT := sL (sI (sP (sP (nO G q 10) 1000 q (some (rkAt G (B 2) a))) 1001 q (rkOp G (B 3) b)) 1002 q c1) (B 3) (gL G (B 3) ++ [q])
def rkNewL (G : GT) (B : Nat → Nat) (n v d w f t : Int) (q : Nat) : GT := sI (sI (sI (sP (sI (sI (nO G q 6) 600 q n) 601 q v) 602 q (rkOp G (B 1) d)) 603 q w) 604 q f) 605 q t
set_option maxHeartbeats 2000000 in
set_option maxRecDepth 100000 in
theorem c_X7_init {E : EV} {l : Launch} {G : GT} {a b : Nat} {r : Option Nat} {n1 : Int} (hk : gK G a = 10) (h1 : InR n1) : MT E l yX7_init cX7_init 4 none 1 13 0 0 [.ref a, .ref b, va_rf r, .int (i32 n1)] G (pD none (sI (sP (sP G 1000 a (some b)) 1001 a r) 1002 a n1)) := by
  refine mt_of (own := RX7) (L := [some (.ref a), some (.ref b), some (va_rf r), some (.int (i32 n1))]) (by decide +kernel) rfl (Nat.le_trans (Nat.le_of_eq (sl_len (List.forall_mem_cons.mpr ⟨rfl, (List.forall_mem_cons.mpr ⟨rfl, (List.forall_mem_cons.mpr ⟨cat_rf, (List.forall_mem_cons.mpr ⟨rfl, (fun _ h => absurd h List.not_mem_nil)⟩)⟩)⟩)⟩))) (Nat.le_of_ble_eq_true rfl)) (List.forall_mem_cons.mpr ⟨rfl, (List.forall_mem_cons.mpr ⟨rfl, (List.forall_mem_cons.mpr ⟨cat_rf, (List.forall_mem_cons.mpr ⟨rfl, (fun _ h => absurd h List.not_mem_nil)⟩)⟩)⟩)⟩) rfl ?_
  intro p e s m args below meth c C hin
  refine x_wf (fun hw => ?_)
  refine x_aload_n 1 C dX7_init_0 rfl rfl ?_
  refine x_objInit 4 C ob_X7_3 ⟨Nat.le_of_ble_eq_true rfl, Nat.le_of_ble_eq_true rfl⟩ dX7_init_1 rfl ?_
  refine x_aload_n 5 C dX7_init_4 rfl rfl ?_
  refine x_aload_n 6 C dX7_init_5 rfl rfl ?_
  refine x_putO 9 1000 C fw_X7_9 (fun _ => hin) dX7_init_6 rfl rfl rfl rfl (by assumption) ?_
  refine x_aload_n 10 C dX7_init_9 rfl rfl ?_
  refine x_aload_nq 11 C dX7_init_10 rfl rfl ?_
  refine x_putP 14 1001 C fw_X7_15 (fun _ => hin) dX7_init_11 rfl rfl rfl rfl (by assumption) ?_
  refine x_aload_n 15 C dX7_init_14 rfl rfl ?_
  refine x_iload_n 16 C dX7_init_15 rfl rfl ?_
  refine x_putI 19 1002 C fw_X7_19 (fun _ => hin) dX7_init_16 rfl rfl rfl rfl rfl (by assumption) (by first | assumption | exact ⟨by omega, by omega⟩ | exact hw.1 _ _ | omega) ?_
  exact x_ret C dX7_init_19 ⟨rfl, rfl⟩
set_option maxHeartbeats 2000000 in
set_option maxRecDepth 100000 in
theorem c_X3_init {E : EV} {l : Launch} {G : GT} {a : Nat} {r : Option Nat} {n1 n2 n3 n4 n5 : Int} (hk : gK G a = 6) (h1 : InR n1) (h2 : InR n2) (h3 : InR n3) (h4 : InR n4) (h5 : InR n5) : MT E l yX3_init cX3_init 7 none 1 13 0 0 [.ref a, .int (i32 n1), .int (i32 n2), va_rf r, .int (i32 n3), .int (i32 n4), .int (i32 n5)] G (pD none (sI (sI (sI (sP (sI (sI G 600 a n1) 601 a n2) 602 a r) 603 a n3) 604 a n4) 605 a n5)) := by
  refine mt_of (own := RX3) (L := [some (.ref a), some (.int (i32 n1)), some (.int (i32 n2)), some (va_rf r), some (.int (i32 n3)), some (.int (i32 n4)), some (.int (i32 n5))]) (by decide +kernel) rfl (Nat.le_trans (Nat.le_of_eq (sl_len (List.forall_mem_cons.mpr ⟨rfl, (List.forall_mem_cons.mpr ⟨rfl, (List.forall_mem_cons.mpr ⟨rfl, (List.forall_mem_cons.mpr ⟨cat_rf, (List.forall_mem_cons.mpr ⟨rfl, (List.forall_mem_cons.mpr ⟨rfl, (List.forall_mem_cons.mpr ⟨rfl, (fun _ h => absurd h List.not_mem_nil)⟩)⟩)⟩)⟩)⟩)⟩)⟩))) (Nat.le_of_ble_eq_true rfl)) (List.forall_mem_cons.mpr ⟨rfl, (List.forall_mem_cons.mpr ⟨rfl, (List.forall_mem_cons.mpr ⟨rfl, (List.forall_mem_cons.mpr ⟨cat_rf, (List.forall_mem_cons.mpr ⟨rfl, (List.forall_mem_cons.mpr ⟨rfl, (List.forall_mem_cons.mpr ⟨rfl, (fun _ h => absurd h List.not_mem_nil)⟩)⟩)⟩)⟩)⟩)⟩)⟩) rfl ?_
  intro p e s m args below meth c C hin
  refine x_wf (fun hw => ?_)
  refine x_aload_n 1 C dX3_init_0 rfl rfl ?_
  refine x_objInit 4 C ob_X3_3 ⟨Nat.le_of_ble_eq_true rfl, Nat.le_of_ble_eq_true rfl⟩ dX3_init_1 rfl ?_
  refine x_aload_n 5 C dX3_init_4 rfl rfl ?_
  refine x_iload_n 6 C dX3_init_5 rfl rfl ?_
  refine x_putI 9 600 C fw_X3_9 (fun _ => hin) dX3_init_6 rfl rfl rfl rfl rfl (by assumption) (by first | assumption | exact ⟨by omega, by omega⟩ | exact hw.1 _ _ | omega) ?_
  refine x_aload_n 10 C dX3_init_9 rfl rfl ?_
  refine x_iload_n 11 C dX3_init_10 rfl rfl ?_
  refine x_putI 14 601 C fw_X3_15 (fun _ => hin) dX3_init_11 rfl rfl rfl rfl rfl (by assumption) (by first | assumption | exact ⟨by omega, by omega⟩ | exact hw.1 _ _ | omega) ?_
  refine x_aload_n 15 C dX3_init_14 rfl rfl ?_
  refine x_aload_nq 16 C dX3_init_15 rfl rfl ?_
  refine x_putP 19 602 C fw_X3_18 (fun _ => hin) dX3_init_16 rfl rfl rfl rfl (by assumption) ?_
  refine x_aload_n 20 C dX3_init_19 rfl rfl ?_
  refine x_iload 22 C dX3_init_20 rfl rfl ?_
  refine x_putI 25 603 C fw_X3_22 (fun _ => hin) dX3_init_22 rfl rfl rfl rfl rfl (by assumption) (by first | assumption | exact ⟨by omega, by omega⟩ | exact hw.1 _ _ | omega) ?_
  refine x_aload_n 26 C dX3_init_25 rfl rfl ?_
  refine x_iload 28 C dX3_init_26 rfl rfl ?_
  refine x_putI 31 604 C fw_X3_25 (fun _ => hin) dX3_init_28 rfl rfl rfl rfl rfl (by assumption) (by first | assumption | exact ⟨by omega, by omega⟩ | exact hw.1 _ _ | omega) ?_
  refine x_aload_n 32 C dX3_init_31 rfl rfl ?_
  refine x_iload 34 C dX3_init_32 rfl rfl ?_
  refine x_putI 37 605 C fw_X3_28 (fun _ => hin) dX3_init_34 rfl rfl rfl rfl rfl (by assumption) (by first | assumption | exact ⟨by omega, by omega⟩ | exact hw.1 _ _ | omega) ?_
  exact x_ret C dX3_init_37 ⟨rfl, rfl⟩
set_option maxHeartbeats 2000000 in
set_option maxRecDepth 100000 in
theorem c_X11_page {E : EV} {l : Launch} {G : GT} {B : Nat → Nat} {R : RT} (hW : rkW G B R) {a b c1 : Int} (ha : InR a) (hb : InR b) (hc : InR c1) (hl : l.stackTraces = false) : MX E l yX11_page cX11_page 6 (some .int) 7 191 4 40 [.ref (B 0), .int (i32 a), .int (i32 b), .int (i32 c1)] G (fun v G' => v = some (.int (i32 (rPage R a b c1))) ∧ rPageC R a b c1 = 0 ∧ ∃ q, gK G q = 0 ∧ G' = rkNewP G B a b c1 q) (fun nx G' => G' = G ∧ rkX nx (rPageC R a b c1)) := by
  refine mx_of (own := RX11) (L := [some (.ref (B 0)), some (.int (i32 a)), some (.int (i32 b)), some (.int (i32 c1)), none, none]) (by decide +kernel) rfl (Nat.le_of_ble_eq_true rfl) (List.forall_mem_cons.mpr ⟨rfl, (List.forall_mem_cons.mpr ⟨rfl, (List.forall_mem_cons.mpr ⟨rfl, (List.forall_mem_cons.mpr ⟨rfl, (fun _ h => absurd h List.not_mem_nil)⟩)⟩)⟩)⟩) rfl ?_
  intro p e s m args below meth c C hin htab
  refine x_wf (fun hw => ?_)
  obtain ⟨hB, hH, hA, hP, hI⟩ := id hW
  obtain ⟨⟨b0, b6, b7⟩, ⟨bk1, bk2, bk3, bk4, bk5, bk8, bk9⟩, ⟨bp0, bp1, bp2, bp3, bp4, bp5, bp6, bp7, bp8⟩, -⟩ := id hB
  obtain ⟨hl1, hh1⟩ := id hH
  obtain ⟨hl2, hh2⟩ := id hA
  obtain ⟨hl3, hh3⟩ := id hP
  obtain ⟨iH, iA, iAd, iHl, iP, iS, hRw, iU⟩ := id hI
  have iH1 := iH.1
  have iA1 := iA.1
  have iA2 := iA.2
  have iP1 := iP.1
  refine x_aload_n 1 C dX11_page_0 rfl rfl ?_
  refine x_iload_n 2 C dX11_page_1 rfl rfl ?_
  refine x_callVX (As := [_]) 5 14 3 34 C htab vw_X11_100 iw_X11_addressAt sw_X11_addressAt (c_X11_addressAt hW ha hl) (aw_i 828 (by decide +kernel) rfl) dX11_page_2 rfl rfl rfl rfl rfl rfl (by assumption) ⟨Nat.le_of_ble_eq_true rfl, Nat.le_of_ble_eq_true rfl⟩ (Nat.le_of_ble_eq_true rfl) ⟨by omega, by omega⟩ (fun nx G' hx => (by obtain ⟨rfl, hG8, hn8⟩ := hx; exact ⟨hG8, rkX1 (if_pos (rbf (fun z => absurd (rPageIs_t.mp z) (by omega))))⟩)) (fun v G' hq => ?_)
  obtain ⟨rfl, hG9, hq1, hq2⟩ := hq
  replace hG9 := hG9.symm
  subst hG9
  refine x_as rfl rfl rfl ?_
  refine x_astore 7 C dX11_page_5 rfl rfl rfl ?_
  refine x_joinK (kc1 := 2) (ks1 := 28) (α := Unit) 21 (fun u => (-1 ≤ b ∧ b < R 24 0)) (fun u => G) (fun u => [some (.ref (B 0)), some (.int (i32 a)), some (.int (i32 b)), some (.int (i32 c1)), some (.ref (rkAt G (B 2) a)), none]) (fun u => [va_rf (rkOp G (B 3) b)]) ?_ (fun hJ21 => ?_)
  · intro aa hJ
    obtain ⟨u, rfl⟩ := (⟨aa, rfl⟩ : ∃ z, z = aa)
    (try dsimp only at hJ); (try dsimp only)
    refine x_astoreq 23 C dX11_page_21 rfl rfl rfl ?_
    refine x_iload_n 24 C dX11_page_23 rfl rfl ?_
    refine x_if_lt 27 32 C dX11_page_24 rfl (by decide) (by first | exact hRw _ _ | assumption | exact ⟨by omega, by omega⟩ | exact hw.1 _ _ | omega) (fun h24 => ?_) (fun h24 => ?_)
    · skip
      exact x_throw (text := "no such policy") C hl htab tqA (by decide +kernel) dX11_page_32 dX11_page_35 dX11_page_36 dX11_page_38 dX11_page_41 ⟨Nat.le_of_ble_eq_true rfl, Nat.le_of_ble_eq_true rfl⟩ ⟨by omega, by omega⟩ ⟨rfl, rkX2 ((if_neg (by rw [rPageIs_t.mpr (by omega)]; decide)).trans (if_pos (rbf (fun z => absurd (rLs_t.mp z) (by omega)))))⟩
    · skip
      refine x_iload_n 28 C dX11_page_27 rfl rfl ?_
      refine x_iconst 29 C dX11_page_28 rfl ?_
      refine x_icmp_le 32 42 C dX11_page_29 rfl (by decide) (by first | exact hRw _ _ | assumption | exact ⟨by omega, by omega⟩ | exact hw.1 _ _ | omega) (by first | exact hRw _ _ | assumption | exact ⟨by omega, by omega⟩ | exact hw.1 _ _ | omega) (fun h29 => ?_) (fun h29 => ?_)
      · skip
        refine x_aload_n 43 C dX11_page_42 rfl rfl ?_
        refine x_getO 46 1402 C fr_X11_19 dX11_page_43 rfl rfl rfl rfl (by assumption) (by assumption) ?_
        refine x_callL (As := []) (ci := 2) 49 2 28 C vw_X11_66 iw_Jx4a65c_size_8abf5 sw_Jx4a65c_size_8abf5 (c_sizev (by assumption) hl3) dX11_page_46 rfl rfl rfl rfl rfl (Or.inr (Or.inr ⟨rfl, (by assumption)⟩)) ⟨Nat.le_of_ble_eq_true rfl, Nat.le_of_ble_eq_true rfl⟩ (Nat.le_of_ble_eq_true rfl) ⟨Nat.le_refl _, Nat.le_refl _⟩ (fun v G' hq => ?_)
        obtain ⟨rfl, hG9⟩ := hq
        replace hG9 := hG9.symm
        subst hG9
        refine x_as rfl rfl rfl ?_
        refine x_bipush 51 C dX11_page_49 rfl (by decide) ?_
        refine x_icmp_lt 54 64 C dX11_page_51 rfl (by decide) (by first | exact hRw _ _ | assumption | exact ⟨by omega, by omega⟩ | exact hw.1 _ _ | omega) (by first | exact hRw _ _ | assumption | exact ⟨by omega, by omega⟩ | exact hw.1 _ _ | omega) (fun h51 => ?_) (fun h51 => ?_)
        · skip
          refine x_aload_n 65 C dX11_page_64 rfl rfl ?_
          refine x_getO 68 1402 C fr_X11_19 dX11_page_65 rfl rfl rfl rfl (by assumption) (by assumption) ?_
          refine x_new (kc0 := 1) (ks0 := 25) 71 10 C nwd_X11_226 rfl rfl dX11_page_68 rfl ⟨by omega, by omega⟩ (fun q68 hq68 => ?_)
          have nqk : gK (nO G q68 10) q68 = 10 := nO_q
          have nk3 := (nO_K (k := 10) (show gK G (B 3) ≠ 0 by omega) hq68).trans bk3
          have np3 := (nO_P (G := G) (q := q68) (k := 10) (j := 1402) (x := B 0) (by decide)).trans bp2
          have nb0 := (nO_K (k := 10) (show gK G (B 0) ≠ 0 by omega) hq68).trans b0
          refine x_dup 72 C dX11_page_71 rfl rfl ?_
          refine x_aload 74 C dX11_page_72 rfl rfl ?_
          refine x_aloadq 76 C dX11_page_74 rfl rfl ?_
          refine x_iload_n 77 C dX11_page_76 rfl rfl ?_
          refine x_callI (As := [_, _, _]) 80 1 25 C vw_X11_228 iw_X7_init rfl (c_X7_init (b := rkAt G (B 2) a) (r := rkOp G (B 3) b) nqk hc) dX11_page_77 rfl rfl rfl ⟨Nat.le_of_ble_eq_true rfl, Nat.le_of_ble_eq_true rfl⟩ (Nat.le_of_ble_eq_true rfl) ⟨Nat.le_refl _, Nat.le_refl _⟩ (fun v G' hq => ?_)
          obtain ⟨rfl, hG9⟩ := hq
          replace hG9 := hG9.symm
          subst hG9
          refine x_as rfl rfl rfl ?_
          refine x_callL (As := [_]) (ci := 2) 83 0 5 C vw_X11_78 iw_Jx4a65c_add_9ea2d sw_Jx4a65c_add_9ea2d (c_add (ms := 20) (by assumption) (show 3 ≤ gK (nO G q68 10) q68 ∧ gK (nO G q68 10) q68 ≤ 14 by omega) (fun x hx => by (obtain ⟨i, i0, i1, rfl⟩ := rkAt_mem hl3 hx; have hki := (hh3 i i0 i1).1; show 3 ≤ gK (nO G q68 10) _ ∧ gK (nO G q68 10) _ ≤ 14; rw [nO_K (by omega) hq68]; omega)) (show (gL G (B 3)).length ≤ 600 ∧ 10 ≤ 20 ∧ (gL G (B 3)).length + (gL G (B 3)).length / 2 ≤ 20 by omega)) dX11_page_80 rfl rfl rfl rfl rfl (Or.inr (Or.inr ⟨rfl, (by assumption)⟩)) ⟨Nat.le_of_ble_eq_true rfl, Nat.le_of_ble_eq_true rfl⟩ (Nat.le_of_ble_eq_true rfl) ⟨by omega, by omega⟩ (fun v G' hq => ?_)
          obtain ⟨rfl, hG9⟩ := hq
          replace hG9 := hG9.symm
          subst hG9
          refine x_as rfl rfl rfl ?_
          refine x_pop 84 C dX11_page_83 rfl rfl ?_
          refine x_aload_n 85 C dX11_page_84 rfl rfl ?_
          refine x_getO 88 1402 C fr_X11_19 dX11_page_85 rfl rfl rfl rfl (by assumption) (by assumption) ?_
          refine x_callL (As := []) (ci := 2) 91 0 5 C vw_X11_66 iw_Jx4a65c_size_8abf5 sw_Jx4a65c_size_8abf5 (c_sizev (v := R 24 0 + 1) (by assumption) (by (rw [sL_s]; show (((gL G (B 3) ++ [q68]).length : Nat) : Int) = _; rw [List.length_append]; show (((gL G (B 3)).length + 1 : Nat) : Int) = _; omega))) dX11_page_88 rfl rfl rfl rfl rfl (Or.inr (Or.inr ⟨rfl, (by assumption)⟩)) ⟨Nat.le_of_ble_eq_true rfl, Nat.le_of_ble_eq_true rfl⟩ (Nat.le_of_ble_eq_true rfl) ⟨Nat.le_refl _, Nat.le_refl _⟩ (fun v G' hq => ?_)
          obtain ⟨rfl, hG9⟩ := hq
          replace hG9 := hG9.symm
          subst hG9
          refine x_as rfl rfl rfl ?_
          refine x_iconst 92 C dX11_page_91 rfl ?_
          refine x_isub 93 C dX11_page_92 rfl ?_
          exact x_through (x_iret C dX11_page_93 rfl (by have hc0 : rPageC R a b c1 = 0 := (if_neg (by rw [rPageIs_t.mpr (by omega)]; decide)).trans ((if_neg (by rw [rLs_t.mpr (by omega)]; decide)).trans (if_neg (by omega))); exact ⟨vi (by unfold rPage; rw [hc0, if_neg (by decide)]; omega), hc0, q68, hq68, rfl⟩))
        · skip
          exact x_throw (text := "no room for this page") C hl htab tqS (by decide +kernel) dX11_page_54 dX11_page_57 dX11_page_58 dX11_page_60 dX11_page_63 ⟨Nat.le_of_ble_eq_true rfl, Nat.le_of_ble_eq_true rfl⟩ ⟨by omega, by omega⟩ ⟨rfl, rkX3 ((if_neg (by rw [rPageIs_t.mpr (by omega)]; decide)).trans ((if_neg (by rw [rLs_t.mpr (by omega)]; decide)).trans (if_pos (by omega))))⟩
      · skip
        exact x_throw (text := "no such policy") C hl htab tqA (by decide +kernel) dX11_page_32 dX11_page_35 dX11_page_36 dX11_page_38 dX11_page_41 ⟨Nat.le_of_ble_eq_true rfl, Nat.le_of_ble_eq_true rfl⟩ ⟨by omega, by omega⟩ ⟨rfl, rkX2 ((if_neg (by rw [rPageIs_t.mpr (by omega)]; decide)).trans (if_pos (rbf (fun z => absurd (rLs_t.mp z) (by omega)))))⟩
  · skip
    refine x_iload_n 8 C dX11_page_7 rfl rfl ?_
    refine x_iconst 9 C dX11_page_8 rfl ?_
    refine x_icmp_ne 12 16 C dX11_page_9 rfl (by decide) (by first | exact hRw _ _ | assumption | exact ⟨by omega, by omega⟩ | exact hw.1 _ _ | omega) (by first | exact hRw _ _ | assumption | exact ⟨by omega, by omega⟩ | exact hw.1 _ _ | omega) (fun h9 => ?_) (fun h9 => ?_)
    · skip
      refine x_aload_n 17 C dX11_page_16 rfl rfl ?_
      refine x_iload_n 18 C dX11_page_17 rfl rfl ?_
      refine x_callVX (As := [_]) 21 14 2 28 C htab vw_X11_218 iw_X11_pageAt sw_X11_pageAt (c_X11_pageAt hW hb hl) (aw_i 938 (by decide +kernel) rfl) dX11_page_18 rfl rfl rfl rfl rfl rfl (by assumption) ⟨Nat.le_of_ble_eq_true rfl, Nat.le_of_ble_eq_true rfl⟩ (Nat.le_of_ble_eq_true rfl) ⟨by omega, by omega⟩ (fun nx G' hx => (by obtain ⟨rfl, hG8, hn8⟩ := hx; exact ⟨hG8, rkX1 (if_pos (rbf (fun z => absurd (rPageIs_t.mp z) (by omega))))⟩)) (fun v G' hq => ?_)
      obtain ⟨rfl, hG9, hq3, hq4⟩ := hq
      replace hG9 := hG9.symm
      subst hG9
      refine x_as rfl rfl rfl ?_
      exact x_as rfl rfl (by (try dsimp only); rw [rkOp_s (by omega)]; rfl) (hJ21 () ⟨by omega, by omega⟩)
    · skip
      refine x_null 13 C dX11_page_12 rfl ?_
      refine x_goto 21 C dX11_page_13 (by decide) ?_
      exact x_as rfl rfl (by rw [h9, rkOp_n]; rfl) (x_weak (by omega) (by omega) (hJ21 () ⟨by omega, by omega⟩))
set_option maxHeartbeats 2000000 in
set_option maxRecDepth 100000 in
theorem c_X11_redirect {E : EV} {l : Launch} {G : GT} {B : Nat → Nat} {R : RT} (hW : rkW G B R) {a b c1 : Int} (ha : InR a) (hb : InR b) (hc : InR c1) (hl : l.stackTraces = false) : MX E l yX11_redirect cX11_redirect 6 none 7 105 3 18 [.ref (B 0), .int (i32 a), .int (i32 b), .int (i32 c1)] G (fun v G' => v = none ∧ rRedC R a b c1 = 0 ∧ G' = sI (sP G 306 (rkAt G (B 2) a) (rkOp G (B 2) b)) 307 (rkAt G (B 2) a) c1) (fun nx G' => G' = G ∧ rkX nx (rRedC R a b c1)) := by
  refine mx_of (own := RX11) (L := [some (.ref (B 0)), some (.int (i32 a)), some (.int (i32 b)), some (.int (i32 c1)), none, none]) (by decide +kernel) rfl (Nat.le_of_ble_eq_true rfl) (List.forall_mem_cons.mpr ⟨rfl, (List.forall_mem_cons.mpr ⟨rfl, (List.forall_mem_cons.mpr ⟨rfl, (List.forall_mem_cons.mpr ⟨rfl, (fun _ h => absurd h List.not_mem_nil)⟩)⟩)⟩)⟩) rfl ?_
  intro p e s m args below meth c C hin htab
  refine x_wf (fun hw => ?_)
  obtain ⟨hB, hH, hA, hP, hI⟩ := id hW
  obtain ⟨⟨b0, b6, b7⟩, ⟨bk1, bk2, bk3, bk4, bk5, bk8, bk9⟩, ⟨bp0, bp1, bp2, bp3, bp4, bp5, bp6, bp7, bp8⟩, -⟩ := id hB
  obtain ⟨hl1, hh1⟩ := id hH
  obtain ⟨hl2, hh2⟩ := id hA
  obtain ⟨hl3, hh3⟩ := id hP
  obtain ⟨iH, iA, iAd, iHl, iP, iS, hRw, iU⟩ := id hI
  have iH1 := iH.1
  have iA1 := iA.1
  have iA2 := iA.2
  have iP1 := iP.1
  refine x_aload_n 1 C dX11_redirect_0 rfl rfl ?_
  refine x_iload_n 2 C dX11_redirect_1 rfl rfl ?_
  refine x_callVX (As := [_]) 5 14 2 12 C htab vw_X11_100 iw_X11_addressAt sw_X11_addressAt (c_X11_addressAt hW ha hl) (aw_i 828 (by decide +kernel) rfl) dX11_redirect_2 rfl rfl rfl rfl rfl rfl (by assumption) ⟨Nat.le_of_ble_eq_true rfl, Nat.le_of_ble_eq_true rfl⟩ (Nat.le_of_ble_eq_true rfl) ⟨by omega, by omega⟩ (fun nx G' hx => (by obtain ⟨rfl, hG8, hn8⟩ := hx; exact ⟨hG8, rkX1 (if_pos (rbf (fun z => absurd (rRedIs_t.mp z) (by omega))))⟩)) (fun v G' hq => ?_)
  obtain ⟨rfl, hG9, hq1, hq2⟩ := hq
  replace hG9 := hG9.symm
  subst hG9
  refine x_as rfl rfl rfl ?_
  obtain ⟨⟨a1, a2, a3, a4, a5, a6⟩, -⟩ := hh2 a hq1 hq2
  refine x_astore 7 C dX11_redirect_5 rfl rfl rfl ?_
  refine x_joinK (kc1 := 1) (ks1 := 6) (α := Unit) 21 (fun u => (-1 ≤ b ∧ b < R 7 0)) (fun u => G) (fun u => [some (.ref (B 0)), some (.int (i32 a)), some (.int (i32 b)), some (.int (i32 c1)), some (.ref (rkAt G (B 2) a)), none]) (fun u => [va_rf (rkOp G (B 2) b)]) ?_ (fun hJ21 => ?_)
  · intro aa hJ
    obtain ⟨u, rfl⟩ := (⟨aa, rfl⟩ : ∃ z, z = aa)
    (try dsimp only at hJ); (try dsimp only)
    refine x_astoreq 23 C dX11_redirect_21 rfl rfl rfl ?_
    refine x_iload_n 24 C dX11_redirect_23 rfl rfl ?_
    refine x_if_lt 27 32 C dX11_redirect_24 rfl (by decide) (by first | exact hRw _ _ | assumption | exact ⟨by omega, by omega⟩ | exact hw.1 _ _ | omega) (fun h24 => ?_) (fun h24 => ?_)
    · skip
      exact x_throw (text := "no such status") C hl htab tqA (by decide +kernel) dX11_redirect_32 dX11_redirect_35 dX11_redirect_36 dX11_redirect_38 dX11_redirect_41 ⟨Nat.le_of_ble_eq_true rfl, Nat.le_of_ble_eq_true rfl⟩ ⟨by omega, by omega⟩ ⟨rfl, rkX2 ((if_neg (by rw [rRedIs_t.mpr (by omega)]; decide)).trans (if_neg (fun z => absurd (rLs_t.mp z) (by omega))))⟩
    · skip
      refine x_iload_n 28 C dX11_redirect_27 rfl rfl ?_
      refine x_iconst 29 C dX11_redirect_28 rfl ?_
      refine x_icmp_le 32 42 C dX11_redirect_29 rfl (by decide) (by first | exact hRw _ _ | assumption | exact ⟨by omega, by omega⟩ | exact hw.1 _ _ | omega) (by first | exact hRw _ _ | assumption | exact ⟨by omega, by omega⟩ | exact hw.1 _ _ | omega) (fun h29 => ?_) (fun h29 => ?_)
      · skip
        refine x_aload 44 C dX11_redirect_42 rfl rfl ?_
        refine x_aloadq 46 C dX11_redirect_44 rfl rfl ?_
        refine x_putP 49 306 C fw_X11_178 (fun h => by cases h) dX11_redirect_46 rfl rfl rfl rfl (by assumption) ?_
        refine x_aload 51 C dX11_redirect_49 rfl rfl ?_
        refine x_iload_n 52 C dX11_redirect_51 rfl rfl ?_
        refine x_putI 55 307 C fw_X11_182 (fun h => by cases h) dX11_redirect_52 rfl rfl rfl rfl rfl (by assumption) (by first | exact hRw _ _ | assumption | exact ⟨by omega, by omega⟩ | exact hw.1 _ _ | omega) ?_
        exact x_through (x_ret C dX11_redirect_55 ⟨rfl, (if_neg (by rw [rRedIs_t.mpr (by omega)]; decide)).trans (if_pos (rLs_t.mpr (by omega))), rfl⟩)
      · skip
        exact x_throw (text := "no such status") C hl htab tqA (by decide +kernel) dX11_redirect_32 dX11_redirect_35 dX11_redirect_36 dX11_redirect_38 dX11_redirect_41 ⟨Nat.le_of_ble_eq_true rfl, Nat.le_of_ble_eq_true rfl⟩ ⟨by omega, by omega⟩ ⟨rfl, rkX2 ((if_neg (by rw [rRedIs_t.mpr (by omega)]; decide)).trans (if_neg (fun z => absurd (rLs_t.mp z) (by omega))))⟩
  · skip
    refine x_iload_n 8 C dX11_redirect_7 rfl rfl ?_
    refine x_iconst 9 C dX11_redirect_8 rfl ?_
    refine x_icmp_ne 12 16 C dX11_redirect_9 rfl (by decide) (by first | exact hRw _ _ | assumption | exact ⟨by omega, by omega⟩ | exact hw.1 _ _ | omega) (by first | exact hRw _ _ | assumption | exact ⟨by omega, by omega⟩ | exact hw.1 _ _ | omega) (fun h9 => ?_) (fun h9 => ?_)
    · skip
      refine x_aload_n 17 C dX11_redirect_16 rfl rfl ?_
      refine x_iload_n 18 C dX11_redirect_17 rfl rfl ?_
      refine x_callVX (As := [_]) 21 14 1 6 C htab vw_X11_100 iw_X11_addressAt sw_X11_addressAt (c_X11_addressAt hW hb hl) (aw_i 828 (by decide +kernel) rfl) dX11_redirect_18 rfl rfl rfl rfl rfl rfl (by assumption) ⟨Nat.le_of_ble_eq_true rfl, Nat.le_of_ble_eq_true rfl⟩ (Nat.le_of_ble_eq_true rfl) ⟨by omega, by omega⟩ (fun nx G' hx => (by obtain ⟨rfl, hG8, hn8⟩ := hx; exact ⟨hG8, rkX1 (if_pos (rbf (fun z => absurd (rRedIs_t.mp z) (by omega))))⟩)) (fun v G' hq => ?_)
      obtain ⟨rfl, hG9, hq3, hq4⟩ := hq
      replace hG9 := hG9.symm
      subst hG9
      refine x_as rfl rfl rfl ?_
      exact x_as rfl rfl (by (try dsimp only); rw [rkOp_s (by omega)]; rfl) (hJ21 () ⟨by omega, by omega⟩)
    · skip
      refine x_null 13 C dX11_redirect_12 rfl ?_
      refine x_goto 21 C dX11_redirect_13 (by decide) ?_
      exact x_as rfl rfl (by rw [h9, rkOp_n]; rfl) (x_weak (by omega) (by omega) (hJ21 () ⟨by omega, by omega⟩))
set_option maxHeartbeats 2000000 in
set_option maxRecDepth 100000 in
theorem c_X11_allow {E : EV} {l : Launch} {G : GT} {B : Nat → Nat} {R : RT} (hW : rkW G B R) {a w c1 s1 t1 : Int} (ha : InR a) (hb : InR w) (hc : c1 = 0 ∨ c1 = 1) (h4 : InR s1) (h5 : InR t1) (hl : l.stackTraces = false) : MX E l yX11_allow cX11_allow 9 none 7 105 3 18 [.ref (B 0), .int (i32 a), .int (i32 w), .int (i32 c1), .int (i32 s1), .int (i32 t1)] G (fun v G' => v = none ∧ rAllC R a w s1 t1 = 0 ∧ G' = sI (sI (sI (sI G 308 (rkAt G (B 2) a) (if w < 0 then w else rkOrg R w)) 309 (rkAt G (B 2) a) c1) 310 (rkAt G (B 2) a) s1) 311 (rkAt G (B 2) a) t1) (fun nx G' => G' = G ∧ rkX nx (rAllC R a w s1 t1)) := by
  refine mx_of (own := RX11) (L := [some (.ref (B 0)), some (.int (i32 a)), some (.int (i32 w)), some (.int (i32 c1)), some (.int (i32 s1)), some (.int (i32 t1)), none, none, none]) (by decide +kernel) rfl (Nat.le_of_ble_eq_true rfl) (List.forall_mem_cons.mpr ⟨rfl, (List.forall_mem_cons.mpr ⟨rfl, (List.forall_mem_cons.mpr ⟨rfl, (List.forall_mem_cons.mpr ⟨rfl, (List.forall_mem_cons.mpr ⟨rfl, (List.forall_mem_cons.mpr ⟨rfl, (fun _ h => absurd h List.not_mem_nil)⟩)⟩)⟩)⟩)⟩)⟩) rfl ?_
  intro p e s m args below meth c C hin htab
  refine x_wf (fun hw => ?_)
  obtain ⟨hB, hH, hA, hP, hI⟩ := id hW
  obtain ⟨⟨b0, b6, b7⟩, ⟨bk1, bk2, bk3, bk4, bk5, bk8, bk9⟩, ⟨bp0, bp1, bp2, bp3, bp4, bp5, bp6, bp7, bp8⟩, -⟩ := id hB
  obtain ⟨hl1, hh1⟩ := id hH
  obtain ⟨hl2, hh2⟩ := id hA
  obtain ⟨hl3, hh3⟩ := id hP
  obtain ⟨iH, iA, iAd, iHl, iP, iS, hRw, iU⟩ := id hI
  have iH1 := iH.1
  have iA1 := iA.1
  have iA2 := iA.2
  have iP1 := iP.1
  refine x_aload_n 1 C dX11_allow_0 rfl rfl ?_
  refine x_iload_n 2 C dX11_allow_1 rfl rfl ?_
  refine x_callVX (As := [_]) 5 14 2 12 C htab vw_X11_100 iw_X11_addressAt sw_X11_addressAt (c_X11_addressAt hW ha hl) (aw_i 828 (by decide +kernel) rfl) dX11_allow_2 rfl rfl rfl rfl rfl rfl (by assumption) ⟨Nat.le_of_ble_eq_true rfl, Nat.le_of_ble_eq_true rfl⟩ (Nat.le_of_ble_eq_true rfl) ⟨by omega, by omega⟩ (fun nx G' hx => (by obtain ⟨rfl, hG8, hn8⟩ := hx; exact ⟨hG8, rkX1 (if_pos (rbf (fun z => absurd (rAllIs_t.mp z) (by omega))))⟩)) (fun v G' hq => ?_)
  obtain ⟨rfl, hG9, hq1, hq2⟩ := hq
  replace hG9 := hG9.symm
  subst hG9
  refine x_as rfl rfl rfl ?_
  obtain ⟨⟨a1, a2, a3, a4, a5, a6⟩, -⟩ := hh2 a hq1 hq2
  refine x_astore 7 C dX11_allow_5 rfl rfl rfl ?_
  refine x_joinv 29 (fun vJ => vJ = bI (rLies w (-3) (-1))) ?_ (fun hJ29 => ?_)
  · intro vJ hJ
    subst hJ
    refine x_istore 31 C dX11_allow_29 rfl rfl rfl ?_
    refine x_joinK (kc1 := 1) (ks1 := 6) (α := Unit) 48 (fun u => (-3 ≤ w ∧ w < R 7 0)) (fun u => G) (fun u => [some (.ref (B 0)), some (.int (i32 a)), some (.int (i32 w)), some (.int (i32 c1)), some (.int (i32 s1)), some (.int (i32 t1)), some (.ref (rkAt G (B 2) a)), some (.int (i32 (bI (rLies w (-3) (-1))))), none]) (fun u => [.int (i32 (if w < 0 then w else rkOrg R w))]) ?_ (fun hJ48 => ?_)
    · intro aa hJ
      obtain ⟨u, rfl⟩ := (⟨aa, rfl⟩ : ∃ z, z = aa)
      (try dsimp only at hJ); (try dsimp only)
      have ho : InR (if w < 0 then w else rkOrg R w) := by (split; exact ⟨by omega, by omega⟩; have ho2 := rkOrg_in iH iAd (a := w) ⟨by omega, by omega⟩; exact ⟨by omega, by omega⟩)
      refine x_istore 50 C dX11_allow_48 rfl rfl rfl ?_
      refine x_iload 52 C dX11_allow_50 rfl rfl ?_
      refine x_if_lt 55 74 C dX11_allow_52 rfl (by decide) (by first | exact hRw _ _ | assumption | exact ⟨by omega, by omega⟩ | exact hw.1 _ _ | omega) (fun h52 => ?_) (fun h52 => ?_)
      · skip
        exact x_throw (text := "no such others or age") C hl htab tqA (by decide +kernel) dX11_allow_74 dX11_allow_77 dX11_allow_78 dX11_allow_80 dX11_allow_83 ⟨Nat.le_of_ble_eq_true rfl, Nat.le_of_ble_eq_true rfl⟩ ⟨by omega, by omega⟩ ⟨rfl, rkX2 ((if_neg (by rw [rAllIs_t.mpr (by omega)]; decide)).trans (if_neg (fun z => by (have z1 := (Bool.and_eq_true _ _).mp z; have z2 := rLs_t.mp z1.1; have z3 := rLs_t.mp z1.2; omega))))⟩
      · skip
        refine x_iload 57 C dX11_allow_55 rfl rfl ?_
        refine x_iconst 58 C dX11_allow_57 rfl ?_
        refine x_icmp_gt 61 74 C dX11_allow_58 rfl (by decide) (by first | exact hRw _ _ | assumption | exact ⟨by omega, by omega⟩ | exact hw.1 _ _ | omega) (by first | exact hRw _ _ | assumption | exact ⟨by omega, by omega⟩ | exact hw.1 _ _ | omega) (fun h58 => ?_) (fun h58 => ?_)
        · skip
          exact x_throw (text := "no such others or age") C hl htab tqA (by decide +kernel) dX11_allow_74 dX11_allow_77 dX11_allow_78 dX11_allow_80 dX11_allow_83 ⟨Nat.le_of_ble_eq_true rfl, Nat.le_of_ble_eq_true rfl⟩ ⟨by omega, by omega⟩ ⟨rfl, rkX2 ((if_neg (by rw [rAllIs_t.mpr (by omega)]; decide)).trans (if_neg (fun z => by (have z1 := (Bool.and_eq_true _ _).mp z; have z2 := rLs_t.mp z1.1; have z3 := rLs_t.mp z1.2; omega))))⟩
        · skip
          refine x_iload 63 C dX11_allow_61 rfl rfl ?_
          refine x_if_lt 66 74 C dX11_allow_63 rfl (by decide) (by first | exact hRw _ _ | assumption | exact ⟨by omega, by omega⟩ | exact hw.1 _ _ | omega) (fun h63 => ?_) (fun h63 => ?_)
          · skip
            exact x_throw (text := "no such others or age") C hl htab tqA (by decide +kernel) dX11_allow_74 dX11_allow_77 dX11_allow_78 dX11_allow_80 dX11_allow_83 ⟨Nat.le_of_ble_eq_true rfl, Nat.le_of_ble_eq_true rfl⟩ ⟨by omega, by omega⟩ ⟨rfl, rkX2 ((if_neg (by rw [rAllIs_t.mpr (by omega)]; decide)).trans (if_neg (fun z => by (have z1 := (Bool.and_eq_true _ _).mp z; have z2 := rLs_t.mp z1.1; have z3 := rLs_t.mp z1.2; omega))))⟩
          · skip
            refine x_iload 68 C dX11_allow_66 rfl rfl ?_
            refine x_sipush 71 C dX11_allow_68 rfl (by decide) ?_
            refine x_icmp_le 74 84 C dX11_allow_71 rfl (by decide) (by first | exact hRw _ _ | assumption | exact ⟨by omega, by omega⟩ | exact hw.1 _ _ | omega) (by first | exact hRw _ _ | assumption | exact ⟨by omega, by omega⟩ | exact hw.1 _ _ | omega) (fun h71 => ?_) (fun h71 => ?_)
            · skip
              refine x_aload 86 C dX11_allow_84 rfl rfl ?_
              refine x_iload 88 C dX11_allow_86 rfl rfl ?_
              refine x_putI 91 308 C fw_X11_190 (fun h => by cases h) dX11_allow_88 rfl rfl rfl rfl rfl (by assumption) (by first | exact hRw _ _ | assumption | exact ⟨by omega, by omega⟩ | exact hw.1 _ _ | omega) ?_
              refine x_aload 93 C dX11_allow_91 rfl rfl ?_
              refine x_iload_n 94 C dX11_allow_93 rfl rfl ?_
              refine x_putZ 97 309 C fw_X11_193 (fun h => by cases h) dX11_allow_94 rfl rfl rfl rfl (by assumption) (by first | assumption | omega | exact bI_01 _) ?_
              refine x_aload 99 C dX11_allow_97 rfl rfl ?_
              refine x_iload 101 C dX11_allow_99 rfl rfl ?_
              refine x_putI 104 310 C fw_X11_196 (fun h => by cases h) dX11_allow_101 rfl rfl rfl rfl rfl (by assumption) (by first | exact hRw _ _ | assumption | exact ⟨by omega, by omega⟩ | exact hw.1 _ _ | omega) ?_
              refine x_aload 106 C dX11_allow_104 rfl rfl ?_
              refine x_iload 108 C dX11_allow_106 rfl rfl ?_
              refine x_putI 111 311 C fw_X11_199 (fun h => by cases h) dX11_allow_108 rfl rfl rfl rfl rfl (by assumption) (by first | exact hRw _ _ | assumption | exact ⟨by omega, by omega⟩ | exact hw.1 _ _ | omega) ?_
              exact x_through (x_ret C dX11_allow_111 ⟨rfl, (if_neg (by rw [rAllIs_t.mpr (by omega)]; decide)).trans (if_pos (by rw [rLs_t.mpr (by omega), rLs_t.mpr (by omega)]; rfl)), rfl⟩)
            · skip
              exact x_throw (text := "no such others or age") C hl htab tqA (by decide +kernel) dX11_allow_74 dX11_allow_77 dX11_allow_78 dX11_allow_80 dX11_allow_83 ⟨Nat.le_of_ble_eq_true rfl, Nat.le_of_ble_eq_true rfl⟩ ⟨by omega, by omega⟩ ⟨rfl, rkX2 ((if_neg (by rw [rAllIs_t.mpr (by omega)]; decide)).trans (if_neg (fun z => by (have z1 := (Bool.and_eq_true _ _).mp z; have z2 := rLs_t.mp z1.1; have z3 := rLs_t.mp z1.2; omega))))⟩
    · skip
      refine x_iload 33 C dX11_allow_31 rfl rfl ?_
      refine x_if_eqB 36 40 C dX11_allow_33 rfl (by decide) (fun h33 => ?_) (fun h33 => ?_)
      · skip
        have h33 : ¬ (-3 ≤ w ∧ w ≤ -1) := fun z => by rw [rLs_t.mpr z] at h33; cases h33
        refine x_aload_n 41 C dX11_allow_40 rfl rfl ?_
        refine x_iload_n 42 C dX11_allow_41 rfl rfl ?_
        refine x_callVX (As := [_]) 45 14 1 6 C htab vw_X11_100 iw_X11_addressAt sw_X11_addressAt (c_X11_addressAt hW hb hl) (aw_i 828 (by decide +kernel) rfl) dX11_allow_42 rfl rfl rfl rfl rfl rfl (by assumption) ⟨Nat.le_of_ble_eq_true rfl, Nat.le_of_ble_eq_true rfl⟩ (Nat.le_of_ble_eq_true rfl) ⟨by omega, by omega⟩ (fun nx G' hx => (by obtain ⟨rfl, hG8, hn8⟩ := hx; exact ⟨hG8, rkX1 (if_pos (rbf (fun z => absurd (rAllIs_t.mp z) (by omega))))⟩)) (fun v G' hq => ?_)
        obtain ⟨rfl, hG9, hq3, hq4⟩ := hq
        replace hG9 := hG9.symm
        subst hG9
        refine x_as rfl rfl rfl ?_
        obtain ⟨⟨m1, -⟩, -⟩ := hh2 w hq3 hq4
        refine x_callV (As := []) 48 3 1 6 C vw_X11_185 iw_X0_origin sw_X0_origin (c_X0_origin hW ⟨hq3, hq4⟩) dX11_allow_45 rfl rfl rfl rfl rfl rfl (by assumption) ⟨Nat.le_of_ble_eq_true rfl, Nat.le_of_ble_eq_true rfl⟩ (Nat.le_of_ble_eq_true rfl) ⟨Nat.le_refl _, Nat.le_refl _⟩ (fun v G' hq => ?_)
        obtain ⟨rfl, hG9⟩ := hq
        replace hG9 := hG9.symm
        subst hG9
        refine x_as rfl rfl rfl ?_
        exact x_as rfl rfl (by (try dsimp only); rw [if_neg (by omega)]; rfl) (hJ48 () ⟨by omega, by omega⟩)
      · skip
        have h33 := rLs_t.mp h33
        refine x_iload_n 37 C dX11_allow_36 rfl rfl ?_
        refine x_goto 48 C dX11_allow_37 (by decide) ?_
        exact x_as rfl rfl (by rw [if_pos (by omega)]; rfl) (x_weak (by omega) (by omega) (hJ48 () ⟨by omega, by omega⟩))
  · skip
    refine x_iload_n 8 C dX11_allow_7 rfl rfl ?_
    refine x_iconst 9 C dX11_allow_8 rfl ?_
    refine x_icmp_eq 12 24 C dX11_allow_9 rfl (by decide) (by first | exact hRw _ _ | assumption | exact ⟨by omega, by omega⟩ | exact hw.1 _ _ | omega) (by first | exact hRw _ _ | assumption | exact ⟨by omega, by omega⟩ | exact hw.1 _ _ | omega) (fun h9 => ?_) (fun h9 => ?_)
    · skip
      refine x_iconst 25 C dX11_allow_24 rfl ?_
      refine x_goto 29 C dX11_allow_25 (by decide) ?_
      exact hJ29 _ (by first | (rw [rLs_t.mpr (by omega)]; rfl) | (rw [rbf (fun z => absurd (rLs_t.mp z) (by omega))]; rfl))
    · skip
      refine x_iload_n 13 C dX11_allow_12 rfl rfl ?_
      refine x_bipush 15 C dX11_allow_13 rfl (by decide) ?_
      refine x_icmp_eq 18 24 C dX11_allow_15 rfl (by decide) (by first | exact hRw _ _ | assumption | exact ⟨by omega, by omega⟩ | exact hw.1 _ _ | omega) (by first | exact hRw _ _ | assumption | exact ⟨by omega, by omega⟩ | exact hw.1 _ _ | omega) (fun h15 => ?_) (fun h15 => ?_)
      · skip
        refine x_iconst 25 C dX11_allow_24 rfl ?_
        refine x_goto 29 C dX11_allow_25 (by decide) ?_
        exact hJ29 _ (by first | (rw [rLs_t.mpr (by omega)]; rfl) | (rw [rbf (fun z => absurd (rLs_t.mp z) (by omega))]; rfl))
      · skip
        refine x_iload_n 19 C dX11_allow_18 rfl rfl ?_
        refine x_bipush 21 C dX11_allow_19 rfl (by decide) ?_
        refine x_icmp_ne 24 28 C dX11_allow_21 rfl (by decide) (by first | exact hRw _ _ | assumption | exact ⟨by omega, by omega⟩ | exact hw.1 _ _ | omega) (by first | exact hRw _ _ | assumption | exact ⟨by omega, by omega⟩ | exact hw.1 _ _ | omega) (fun h21 => ?_) (fun h21 => ?_)
        · skip
          refine x_iconst 29 C dX11_allow_28 rfl ?_
          exact hJ29 _ (by first | (rw [rLs_t.mpr (by omega)]; rfl) | (rw [rbf (fun z => absurd (rLs_t.mp z) (by omega))]; rfl))
        · skip
          refine x_iconst 25 C dX11_allow_24 rfl ?_
          refine x_goto 29 C dX11_allow_25 (by decide) ?_
          exact hJ29 _ (by first | (rw [rLs_t.mpr (by omega)]; rfl) | (rw [rbf (fun z => absurd (rLs_t.mp z) (by omega))]; rfl))
set_option maxHeartbeats 2000000 in
set_option maxRecDepth 100000 in
theorem c_X11_setsCookie {E : EV} {l : Launch} {G : GT} {B : Nat → Nat} {R : RT} (hW : rkW G B R) {a n1 v1 d1 w f1 t1 : Int} (ha : InR a) (h1 : InR n1) (h2 : InR v1) (h3 : InR d1) (h4 : InR w) (h5 : InR f1) (h6 : InR t1) (hl : l.stackTraces = false) : MX E l yX11_setsCookie cX11_setsCookie 10 none 7 105 3 18 [.ref (B 0), .int (i32 a), .int (i32 n1), .int (i32 v1), .int (i32 d1), .int (i32 w), .int (i32 f1), .int (i32 t1)] G (fun v G' => v = none ∧ rSetC R a n1 v1 d1 w f1 t1 = 0 ∧ ((v1 = -1 ∧ G' = sP G 312 (rkAt G (B 2) a) none) ∨ (¬ v1 = -1 ∧ ∃ q, gK G q = 0 ∧ G' = sP (rkNewL G B n1 v1 d1 w f1 t1 q) 312 (rkAt G (B 2) a) (some q)))) (fun nx G' => G' = G ∧ rkX nx (rSetC R a n1 v1 d1 w f1 t1)) := by
  refine mx_of (own := RX11) (L := [some (.ref (B 0)), some (.int (i32 a)), some (.int (i32 n1)), some (.int (i32 v1)), some (.int (i32 d1)), some (.int (i32 w)), some (.int (i32 f1)), some (.int (i32 t1)), none, none]) (by decide +kernel) rfl (Nat.le_of_ble_eq_true rfl) (List.forall_mem_cons.mpr ⟨rfl, (List.forall_mem_cons.mpr ⟨rfl, (List.forall_mem_cons.mpr ⟨rfl, (List.forall_mem_cons.mpr ⟨rfl, (List.forall_mem_cons.mpr ⟨rfl, (List.forall_mem_cons.mpr ⟨rfl, (List.forall_mem_cons.mpr ⟨rfl, (List.forall_mem_cons.mpr ⟨rfl, (fun _ h => absurd h List.not_mem_nil)⟩)⟩)⟩)⟩)⟩)⟩)⟩)⟩) rfl ?_
  intro p e s m args below meth c C hin htab
  refine x_wf (fun hw => ?_)
  obtain ⟨hB, hH, hA, hP, hI⟩ := id hW
  obtain ⟨⟨b0, b6, b7⟩, ⟨bk1, bk2, bk3, bk4, bk5, bk8, bk9⟩, ⟨bp0, bp1, bp2, bp3, bp4, bp5, bp6, bp7, bp8⟩, -⟩ := id hB
  obtain ⟨hl1, hh1⟩ := id hH
  obtain ⟨hl2, hh2⟩ := id hA
  obtain ⟨hl3, hh3⟩ := id hP
  obtain ⟨iH, iA, iAd, iHl, iP, iS, hRw, iU⟩ := id hI
  have iH1 := iH.1
  have iA1 := iA.1
  have iA2 := iA.2
  have iP1 := iP.1
  refine x_aload_n 1 C dX11_setsCookie_0 rfl rfl ?_
  refine x_iload_n 2 C dX11_setsCookie_1 rfl rfl ?_
  refine x_callVX (As := [_]) 5 14 2 12 C htab vw_X11_100 iw_X11_addressAt sw_X11_addressAt (c_X11_addressAt hW ha hl) (aw_i 828 (by decide +kernel) rfl) dX11_setsCookie_2 rfl rfl rfl rfl rfl rfl (by assumption) ⟨Nat.le_of_ble_eq_true rfl, Nat.le_of_ble_eq_true rfl⟩ (Nat.le_of_ble_eq_true rfl) ⟨by omega, by omega⟩ (fun nx G' hx => (by obtain ⟨rfl, hG8, hn8⟩ := hx; exact ⟨hG8, rkX1 (if_pos (rbf (fun z => absurd (rSetIs_t.mp z) (by omega))))⟩)) (fun v G' hq => ?_)
  obtain ⟨rfl, hG9, hq1, hq2⟩ := hq
  replace hG9 := hG9.symm
  subst hG9
  refine x_as rfl rfl rfl ?_
  obtain ⟨⟨a1, a2, a3, a4, a5, a6⟩, -⟩ := hh2 a hq1 hq2
  refine x_astore 7 C dX11_setsCookie_5 rfl rfl rfl ?_
  refine x_joinK (kc1 := 1) (ks1 := 6) (α := Unit) 23 (fun u => (-1 ≤ d1 ∧ d1 < R 3 0)) (fun u => G) (fun u => [some (.ref (B 0)), some (.int (i32 a)), some (.int (i32 n1)), some (.int (i32 v1)), some (.int (i32 d1)), some (.int (i32 w)), some (.int (i32 f1)), some (.int (i32 t1)), some (.ref (rkAt G (B 2) a)), none]) (fun u => [va_rf (rkOp G (B 1) d1)]) ?_ (fun hJ23 => ?_)
  · intro aa hJ
    obtain ⟨u, rfl⟩ := (⟨aa, rfl⟩ : ∃ z, z = aa)
    (try dsimp only at hJ); (try dsimp only)
    refine x_astoreq 25 C dX11_setsCookie_23 rfl rfl rfl ?_
    refine x_iload_n 26 C dX11_setsCookie_25 rfl rfl ?_
    refine x_if_lt 29 55 C dX11_setsCookie_26 rfl (by decide) (by first | exact hRw _ _ | assumption | exact ⟨by omega, by omega⟩ | exact hw.1 _ _ | omega) (fun h26 => ?_) (fun h26 => ?_)
    · skip
      exact x_throw (text := "no such name, value or path") C hl htab tqA (by decide +kernel) dX11_setsCookie_55 dX11_setsCookie_58 dX11_setsCookie_59 dX11_setsCookie_61 dX11_setsCookie_64 ⟨Nat.le_of_ble_eq_true rfl, Nat.le_of_ble_eq_true rfl⟩ ⟨by omega, by omega⟩ ⟨rfl, rkX2 ((if_neg (by rw [rSetIs_t.mpr (by omega)]; decide)).trans (if_neg (fun z => by (have z1 := rSetOk_t.mp z; first | omega | (rw [z1.2.2.1] at h52; cases h52)))))⟩
    · skip
      refine x_iload_n 30 C dX11_setsCookie_29 rfl rfl ?_
      refine x_bipush 32 C dX11_setsCookie_30 rfl (by decide) ?_
      refine x_icmp_gt 35 55 C dX11_setsCookie_32 rfl (by decide) (by first | exact hRw _ _ | assumption | exact ⟨by omega, by omega⟩ | exact hw.1 _ _ | omega) (by first | exact hRw _ _ | assumption | exact ⟨by omega, by omega⟩ | exact hw.1 _ _ | omega) (fun h32 => ?_) (fun h32 => ?_)
      · skip
        exact x_throw (text := "no such name, value or path") C hl htab tqA (by decide +kernel) dX11_setsCookie_55 dX11_setsCookie_58 dX11_setsCookie_59 dX11_setsCookie_61 dX11_setsCookie_64 ⟨Nat.le_of_ble_eq_true rfl, Nat.le_of_ble_eq_true rfl⟩ ⟨by omega, by omega⟩ ⟨rfl, rkX2 ((if_neg (by rw [rSetIs_t.mpr (by omega)]; decide)).trans (if_neg (fun z => by (have z1 := rSetOk_t.mp z; first | omega | (rw [z1.2.2.1] at h52; cases h52)))))⟩
      · skip
        refine x_iload_n 36 C dX11_setsCookie_35 rfl rfl ?_
        refine x_iconst 37 C dX11_setsCookie_36 rfl ?_
        refine x_icmp_lt 40 55 C dX11_setsCookie_37 rfl (by decide) (by first | exact hRw _ _ | assumption | exact ⟨by omega, by omega⟩ | exact hw.1 _ _ | omega) (by first | exact hRw _ _ | assumption | exact ⟨by omega, by omega⟩ | exact hw.1 _ _ | omega) (fun h37 => ?_) (fun h37 => ?_)
        · skip
          exact x_throw (text := "no such name, value or path") C hl htab tqA (by decide +kernel) dX11_setsCookie_55 dX11_setsCookie_58 dX11_setsCookie_59 dX11_setsCookie_61 dX11_setsCookie_64 ⟨Nat.le_of_ble_eq_true rfl, Nat.le_of_ble_eq_true rfl⟩ ⟨by omega, by omega⟩ ⟨rfl, rkX2 ((if_neg (by rw [rSetIs_t.mpr (by omega)]; decide)).trans (if_neg (fun z => by (have z1 := rSetOk_t.mp z; first | omega | (rw [z1.2.2.1] at h52; cases h52)))))⟩
        · skip
          refine x_iload_n 41 C dX11_setsCookie_40 rfl rfl ?_
          refine x_sipush 44 C dX11_setsCookie_41 rfl (by decide) ?_
          refine x_icmp_gt 47 55 C dX11_setsCookie_44 rfl (by decide) (by first | exact hRw _ _ | assumption | exact ⟨by omega, by omega⟩ | exact hw.1 _ _ | omega) (by first | exact hRw _ _ | assumption | exact ⟨by omega, by omega⟩ | exact hw.1 _ _ | omega) (fun h44 => ?_) (fun h44 => ?_)
          · skip
            exact x_throw (text := "no such name, value or path") C hl htab tqA (by decide +kernel) dX11_setsCookie_55 dX11_setsCookie_58 dX11_setsCookie_59 dX11_setsCookie_61 dX11_setsCookie_64 ⟨Nat.le_of_ble_eq_true rfl, Nat.le_of_ble_eq_true rfl⟩ ⟨by omega, by omega⟩ ⟨rfl, rkX2 ((if_neg (by rw [rSetIs_t.mpr (by omega)]; decide)).trans (if_neg (fun z => by (have z1 := rSetOk_t.mp z; first | omega | (rw [z1.2.2.1] at h52; cases h52)))))⟩
          · skip
            refine x_iload 49 C dX11_setsCookie_47 rfl rfl ?_
            refine x_callS (As := [_]) 52 1 6 C vw_X11_90 tw_X11_isPath (c_X11_isPath h4) dX11_setsCookie_49 rfl rfl rfl ⟨Nat.le_of_ble_eq_true rfl, Nat.le_of_ble_eq_true rfl⟩ (Nat.le_of_ble_eq_true rfl) ⟨Nat.le_refl _, Nat.le_refl _⟩ (fun v G' hq => ?_)
            obtain ⟨rfl, hG9⟩ := hq
            replace hG9 := hG9.symm
            subst hG9
            refine x_as rfl rfl rfl ?_
            refine x_if_neB 55 65 C dX11_setsCookie_52 rfl (by decide) (fun h52 => ?_) (fun h52 => ?_)
            · skip
              have hpt := h52
              refine x_iload 67 C dX11_setsCookie_65 rfl rfl ?_
              refine x_if_lt 70 91 C dX11_setsCookie_67 rfl (by decide) (by first | exact hRw _ _ | assumption | exact ⟨by omega, by omega⟩ | exact hw.1 _ _ | omega) (fun h67 => ?_) (fun h67 => ?_)
              · skip
                exact x_throw (text := "no such flags or age") C hl htab tqA (by decide +kernel) dX11_setsCookie_91 dX11_setsCookie_94 dX11_setsCookie_95 dX11_setsCookie_97 dX11_setsCookie_100 ⟨Nat.le_of_ble_eq_true rfl, Nat.le_of_ble_eq_true rfl⟩ ⟨by omega, by omega⟩ ⟨rfl, rkX2 ((if_neg (by rw [rSetIs_t.mpr (by omega)]; decide)).trans (if_neg (fun z => by (have z1 := rSetOk_t.mp z; omega))))⟩
              · skip
                refine x_iload 72 C dX11_setsCookie_70 rfl rfl ?_
                refine x_bipush 74 C dX11_setsCookie_72 rfl (by decide) ?_
                refine x_icmp_gt 77 91 C dX11_setsCookie_74 rfl (by decide) (by first | exact hRw _ _ | assumption | exact ⟨by omega, by omega⟩ | exact hw.1 _ _ | omega) (by first | exact hRw _ _ | assumption | exact ⟨by omega, by omega⟩ | exact hw.1 _ _ | omega) (fun h74 => ?_) (fun h74 => ?_)
                · skip
                  exact x_throw (text := "no such flags or age") C hl htab tqA (by decide +kernel) dX11_setsCookie_91 dX11_setsCookie_94 dX11_setsCookie_95 dX11_setsCookie_97 dX11_setsCookie_100 ⟨Nat.le_of_ble_eq_true rfl, Nat.le_of_ble_eq_true rfl⟩ ⟨by omega, by omega⟩ ⟨rfl, rkX2 ((if_neg (by rw [rSetIs_t.mpr (by omega)]; decide)).trans (if_neg (fun z => by (have z1 := rSetOk_t.mp z; omega))))⟩
                · skip
                  refine x_iload 79 C dX11_setsCookie_77 rfl rfl ?_
                  refine x_iconst 80 C dX11_setsCookie_79 rfl ?_
                  refine x_icmp_lt 83 91 C dX11_setsCookie_80 rfl (by decide) (by first | exact hRw _ _ | assumption | exact ⟨by omega, by omega⟩ | exact hw.1 _ _ | omega) (by first | exact hRw _ _ | assumption | exact ⟨by omega, by omega⟩ | exact hw.1 _ _ | omega) (fun h80 => ?_) (fun h80 => ?_)
                  · skip
                    exact x_throw (text := "no such flags or age") C hl htab tqA (by decide +kernel) dX11_setsCookie_91 dX11_setsCookie_94 dX11_setsCookie_95 dX11_setsCookie_97 dX11_setsCookie_100 ⟨Nat.le_of_ble_eq_true rfl, Nat.le_of_ble_eq_true rfl⟩ ⟨by omega, by omega⟩ ⟨rfl, rkX2 ((if_neg (by rw [rSetIs_t.mpr (by omega)]; decide)).trans (if_neg (fun z => by (have z1 := rSetOk_t.mp z; omega))))⟩
                  · skip
                    refine x_iload 85 C dX11_setsCookie_83 rfl rfl ?_
                    refine x_sipush 88 C dX11_setsCookie_85 rfl (by decide) ?_
                    refine x_icmp_le 91 101 C dX11_setsCookie_88 rfl (by decide) (by first | exact hRw _ _ | assumption | exact ⟨by omega, by omega⟩ | exact hw.1 _ _ | omega) (by first | exact hRw _ _ | assumption | exact ⟨by omega, by omega⟩ | exact hw.1 _ _ | omega) (fun h88 => ?_) (fun h88 => ?_)
                    · skip
                      refine x_aload 103 C dX11_setsCookie_101 rfl rfl ?_
                      refine x_iload_n 104 C dX11_setsCookie_103 rfl rfl ?_
                      refine x_iconst 105 C dX11_setsCookie_104 rfl ?_
                      refine x_icmp_ne 108 112 C dX11_setsCookie_105 rfl (by decide) (by first | exact hRw _ _ | assumption | exact ⟨by omega, by omega⟩ | exact hw.1 _ _ | omega) (by first | exact hRw _ _ | assumption | exact ⟨by omega, by omega⟩ | exact hw.1 _ _ | omega) (fun h105 => ?_) (fun h105 => ?_)
                      · skip
                        refine x_new (kc0 := 0) (ks0 := 0) 115 6 C nwd_X11_206 rfl rfl dX11_setsCookie_112 rfl ⟨by omega, by omega⟩ (fun q112 hq112 => ?_)
                        have nqk : gK (nO G q112 6) q112 = 6 := nO_q
                        have na1 := (nO_K (k := 6) (show gK G (rkAt G (B 2) a) ≠ 0 by omega) hq112).trans a1
                        refine x_dup 116 C dX11_setsCookie_115 rfl rfl ?_
                        refine x_iload_n 117 C dX11_setsCookie_116 rfl rfl ?_
                        refine x_iload_n 118 C dX11_setsCookie_117 rfl rfl ?_
                        refine x_aloadq 120 C dX11_setsCookie_118 rfl rfl ?_
                        refine x_iload 122 C dX11_setsCookie_120 rfl rfl ?_
                        refine x_iload 124 C dX11_setsCookie_122 rfl rfl ?_
                        refine x_iload 126 C dX11_setsCookie_124 rfl rfl ?_
                        refine x_callI (As := [_, _, _, _, _, _]) 129 0 0 C vw_X11_208 iw_X3_init rfl (c_X3_init (r := rkOp G (B 1) d1) nqk h1 h2 h4 h5 h6) dX11_setsCookie_126 rfl rfl rfl ⟨Nat.le_of_ble_eq_true rfl, Nat.le_of_ble_eq_true rfl⟩ (Nat.le_of_ble_eq_true rfl) ⟨Nat.le_refl _, Nat.le_refl _⟩ (fun v G' hq => ?_)
                        obtain ⟨rfl, hG9⟩ := hq
                        replace hG9 := hG9.symm
                        subst hG9
                        refine x_as rfl rfl rfl ?_
                        refine x_putO 132 312 C fw_X11_211 (fun h => by cases h) dX11_setsCookie_129 rfl rfl rfl rfl (by first | exact a1 | exact na1) ?_
                        exact x_through (x_ret C dX11_setsCookie_132 ⟨rfl, (if_neg (by rw [rSetIs_t.mpr (by omega)]; decide)).trans (if_pos (rSetOk_t.mpr ⟨by omega, by omega, hpt, by omega, by omega⟩)), Or.inr ⟨h105, q112, hq112, rfl⟩⟩)
                      · skip
                        refine x_null 109 C dX11_setsCookie_108 rfl ?_
                        refine x_goto 129 C dX11_setsCookie_109 (by decide) ?_
                        refine x_putP 132 312 C fw_X11_211 (fun h => by cases h) dX11_setsCookie_129 rfl rfl rfl rfl (by first | exact a1 | exact na1) ?_
                        exact x_through (x_ret C dX11_setsCookie_132 ⟨rfl, (if_neg (by rw [rSetIs_t.mpr (by omega)]; decide)).trans (if_pos (rSetOk_t.mpr ⟨by omega, by omega, hpt, by omega, by omega⟩)), Or.inl ⟨h105, rfl⟩⟩)
                    · skip
                      exact x_throw (text := "no such flags or age") C hl htab tqA (by decide +kernel) dX11_setsCookie_91 dX11_setsCookie_94 dX11_setsCookie_95 dX11_setsCookie_97 dX11_setsCookie_100 ⟨Nat.le_of_ble_eq_true rfl, Nat.le_of_ble_eq_true rfl⟩ ⟨by omega, by omega⟩ ⟨rfl, rkX2 ((if_neg (by rw [rSetIs_t.mpr (by omega)]; decide)).trans (if_neg (fun z => by (have z1 := rSetOk_t.mp z; omega))))⟩
            · skip
              have hpf := h52
              exact x_throw (text := "no such name, value or path") C hl htab tqA (by decide +kernel) dX11_setsCookie_55 dX11_setsCookie_58 dX11_setsCookie_59 dX11_setsCookie_61 dX11_setsCookie_64 ⟨Nat.le_of_ble_eq_true rfl, Nat.le_of_ble_eq_true rfl⟩ ⟨by omega, by omega⟩ ⟨rfl, rkX2 ((if_neg (by rw [rSetIs_t.mpr (by omega)]; decide)).trans (if_neg (fun z => by (have z1 := rSetOk_t.mp z; first | omega | (rw [z1.2.2.1] at h52; cases h52)))))⟩
  · skip
    refine x_iload 9 C dX11_setsCookie_7 rfl rfl ?_
    refine x_iconst 10 C dX11_setsCookie_9 rfl ?_
    refine x_icmp_ne 13 17 C dX11_setsCookie_10 rfl (by decide) (by first | exact hRw _ _ | assumption | exact ⟨by omega, by omega⟩ | exact hw.1 _ _ | omega) (by first | exact hRw _ _ | assumption | exact ⟨by omega, by omega⟩ | exact hw.1 _ _ | omega) (fun h10 => ?_) (fun h10 => ?_)
    · skip
      refine x_aload_n 18 C dX11_setsCookie_17 rfl rfl ?_
      refine x_iload 20 C dX11_setsCookie_18 rfl rfl ?_
      refine x_callVX (As := [_]) 23 14 1 6 C htab vw_X11_42 iw_X11_hostAt sw_X11_hostAt (c_X11_hostAt hW h3 hl) (aw_i 245 (by decide +kernel) rfl) dX11_setsCookie_20 rfl rfl rfl rfl rfl rfl (by assumption) ⟨Nat.le_of_ble_eq_true rfl, Nat.le_of_ble_eq_true rfl⟩ (Nat.le_of_ble_eq_true rfl) ⟨by omega, by omega⟩ (fun nx G' hx => (by obtain ⟨rfl, hG8, hn8⟩ := hx; exact ⟨hG8, rkX1 (if_pos (rbf (fun z => absurd (rSetIs_t.mp z) (by omega))))⟩)) (fun v G' hq => ?_)
      obtain ⟨rfl, hG9, hq3, hq4⟩ := hq
      replace hG9 := hG9.symm
      subst hG9
      refine x_as rfl rfl rfl ?_
      exact x_as rfl rfl (by (try dsimp only); rw [rkOp_s (by omega)]; rfl) (hJ23 () ⟨by omega, by omega⟩)
    · skip
      refine x_null 14 C dX11_setsCookie_13 rfl ?_
      refine x_goto 23 C dX11_setsCookie_14 (by decide) ?_
      exact x_as rfl rfl (by rw [h10, rkOp_n]; rfl) (x_weak (by omega) (by omega) (hJ23 () ⟨by omega, by omega⟩))
set_option maxHeartbeats 2000000 in
set_option maxRecDepth 100000 in
theorem c_X11_toggleBlocking {E : EV} {l : Launch} {G : GT} {B : Nat → Nat} {v1 : Int} (hB : rkB G B) (hv : gI G 1407 (B 0) = v1) : MT E l yX11_toggleBlocking cX11_toggleBlocking 1 (some .boolean) 0 0 0 0 [.ref (B 0)] G (pD (some (.int (i32 (if v1 = 0 then 1 else 0)))) (sI G 1407 (B 0) (if v1 = 0 then 1 else 0))) := by
  refine mt_of (own := RX11) (L := [some (.ref (B 0))]) (by decide +kernel) rfl (Nat.le_of_ble_eq_true rfl) (List.forall_mem_cons.mpr ⟨rfl, (fun _ h => absurd h List.not_mem_nil)⟩) rfl ?_
  intro p e s m args below meth c C hin
  refine x_wf (fun hw => ?_)
  have b0 := hB.1.1
  have hv01 : InR v1 := by (rw [← hv]; exact hw.1 _ _)
  have ht01 : (if v1 = 0 then 1 else 0 : Int) = 0 ∨ (if v1 = 0 then 1 else 0 : Int) = 1 := by (split; exact Or.inr rfl; exact Or.inl rfl)
  refine x_aload_n 1 C dX11_toggleBlocking_0 rfl rfl ?_
  refine x_joinv 13 (fun vJ => vJ = if v1 = 0 then 1 else 0) ?_ (fun hJ13 => ?_)
  · intro vJ hJ
    subst hJ
    refine x_putZ 16 1407 C fw_X11_215 (fun h => by cases h) dX11_toggleBlocking_13 rfl rfl rfl rfl (by assumption) (by first | assumption | omega | exact bI_01 _) ?_
    refine x_aload_n 17 C dX11_toggleBlocking_16 rfl rfl ?_
    refine x_getIv 20 1407 C fr_X11_215 dX11_toggleBlocking_17 rfl rfl rfl rfl (by assumption) (show u2 (gI G) 1407 (B 0) (if v1 = 0 then 1 else 0) 1407 (B 0) = _ from u2_s) ?_
    exact x_iret C dX11_toggleBlocking_20 (nar_01 ht01) ⟨rfl, rfl⟩
  · skip
    refine x_aload_n 2 C dX11_toggleBlocking_1 rfl rfl ?_
    refine x_getIv 5 1407 C fr_X11_215 dX11_toggleBlocking_2 rfl rfl rfl rfl (by assumption) (by first | assumption | rfl) ?_
    refine x_if_ne 8 12 C dX11_toggleBlocking_5 rfl (by decide) (by first | assumption | exact ⟨by omega, by omega⟩ | exact hw.1 _ _ | omega) (fun h5 => ?_) (fun h5 => ?_)
    · skip
      refine x_iconst 13 C dX11_toggleBlocking_12 rfl ?_
      exact hJ13 _ (by first | rw [if_pos h5] | rw [if_neg h5])
    · skip
      refine x_iconst 9 C dX11_toggleBlocking_8 rfl ?_
      refine x_goto 13 C dX11_toggleBlocking_9 (by decide) ?_
      exact hJ13 _ (by first | rw [if_pos h5] | rw [if_neg h5])
