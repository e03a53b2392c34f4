/-! rows laid by program (wip/tools/genp.py) -/
/-- a new address -/
def rkNf (R : RT) (G2 : GT) (B : Nat → Nat) (a q : Nat) (n1 s1 : Int) (hx : Nat) (h p1 w : Int) : Prop := gK G2 a = 3 ∧ (gI G2 300 a = n1 ∧ gI G2 301 a = s1 ∧ gP G2 302 a = some hx ∧ gI G2 303 a = p1 ∧ gI G2 304 a = w) ∧ (gP G2 305 a = some q ∧ gK G2 q = 22 ∧ gL G2 q = rkText R s1 h p1 w) ∧ (gP G2 306 a = none ∧ gI G2 307 a = 0 ∧ gI G2 308 a = -1 ∧ gI G2 309 a = 0 ∧ gI G2 310 a = 0 ∧ gI G2 311 a = 0) ∧ gP G2 312 a = none
set_option maxHeartbeats 2000000 in
set_option maxRecDepth 100000 in
theorem c_X0_init {E : EV} {l : Launch} {G : GT} {B : Nat → Nat} {R : RT} (hW : rkW G B R) {a : Nat} {n1 s1 h p1 w : Int} (hqa : gK G a = 0) (h0 : InR n1) (h1 : 0 ≤ s1 ∧ s1 ≤ 1) (h2 : 0 ≤ h ∧ h < R 3 0) (h3 : 0 ≤ p1 ∧ p1 ≤ 9999) (h4 : 0 ≤ w ∧ w ≤ 999) : MT E l yX0_init cX0_init 6 none 8 197 65 10020 [.ref a, .int (i32 n1), .int (i32 s1), .ref (rkAt G (B 1) h), .int (i32 p1), .int (i32 w)] (nO G a 3) (fun v G' => v = none ∧ ∃ q : Nat, rkFr [] [] G G' ∧ rkNf R G' B a q n1 s1 (rkAt G (B 1) h) h p1 w) := by
  refine mt_of (own := RX0) (L := [some (.ref a), some (.int (i32 n1)), some (.int (i32 s1)), some (.ref (rkAt G (B 1) h)), some (.int (i32 p1)), some (.int (i32 w))]) (by decide +kernel) rfl (Nat.le_of_ble_eq_true rfl) (List.forall_mem_cons.mpr ⟨rfl, (List.forall_mem_cons.mpr ⟨rfl, (List.forall_mem_cons.mpr ⟨rfl, (List.forall_mem_cons.mpr ⟨rfl, (List.forall_mem_cons.mpr ⟨rfl, (List.forall_mem_cons.mpr ⟨rfl, (fun _ h => absurd h List.not_mem_nil)⟩)⟩)⟩)⟩)⟩)⟩) rfl ?_
  intro p e s m args below meth c C hin
  refine x_wf (fun hw => ?_)
  have hka : gK (nO G a 3) a = 3 := nO_q
  have hf5 : rkFr [] [] G (sI (sI (sP (sI (sI (nO G a 3) 300 a n1) 301 a s1) 302 a (some (rkAt G (B 1) h))) 303 a p1) 304 a w) := fr_sIq hqa (fr_sIq hqa (fr_sPq hqa (by decide) (fr_sIq hqa (fr_sIq hqa (fr_nO hqa (by decide) fr_rfl)))))
  have hW5 : rkW (sI (sI (sP (sI (sI (nO G a 3) 300 a n1) 301 a s1) 302 a (some (rkAt G (B 1) h))) 303 a p1) 304 a w) B R := rkW_fr hW hf5 (fun k z => by cases z) ⟨List.not_mem_nil, List.not_mem_nil, List.not_mem_nil⟩ (fun x z => by cases z)
  refine x_aload_n 1 C dX0_init_0 rfl rfl ?_
  refine x_objInit 4 C ob_X0_3 ⟨Nat.le_of_ble_eq_true rfl, Nat.le_of_ble_eq_true rfl⟩ dX0_init_1 rfl ?_
  refine x_aload_n 5 C dX0_init_4 rfl rfl ?_
  refine x_iload_n 6 C dX0_init_5 rfl rfl ?_
  refine x_putI 9 300 C fw_X0_9 (fun _ => hin) dX0_init_6 rfl rfl rfl rfl rfl (by assumption) (by first | exact hRw _ _ | assumption | exact ⟨by omega, by omega⟩ | exact hw.1 _ _ | omega) ?_
  refine x_aload_n 10 C dX0_init_9 rfl rfl ?_
  refine x_iload_n 11 C dX0_init_10 rfl rfl ?_
  refine x_putI 14 301 C fw_X0_15 (fun _ => hin) dX0_init_11 rfl rfl rfl rfl rfl (by assumption) (by first | exact hRw _ _ | assumption | exact ⟨by omega, by omega⟩ | exact hw.1 _ _ | omega) ?_
  refine x_aload_n 15 C dX0_init_14 rfl rfl ?_
  refine x_aload_n 16 C dX0_init_15 rfl rfl ?_
  refine x_putO 19 302 C fw_X0_18 (fun _ => hin) dX0_init_16 rfl rfl rfl rfl (by assumption) ?_
  refine x_aload_n 20 C dX0_init_19 rfl rfl ?_
  refine x_iload 22 C dX0_init_20 rfl rfl ?_
  refine x_putI 25 303 C fw_X0_22 (fun _ => hin) dX0_init_22 rfl rfl rfl rfl rfl (by assumption) (by first | exact hRw _ _ | assumption | exact ⟨by omega, by omega⟩ | exact hw.1 _ _ | omega) ?_
  refine x_aload_n 26 C dX0_init_25 rfl rfl ?_
  refine x_iload 28 C dX0_init_26 rfl rfl ?_
  refine x_putI 31 304 C fw_X0_25 (fun _ => hin) dX0_init_28 rfl rfl rfl rfl rfl (by assumption) (by first | exact hRw _ _ | assumption | exact ⟨by omega, by omega⟩ | exact hw.1 _ _ | omega) ?_
  refine x_aload_n 32 C dX0_init_31 rfl rfl ?_
  refine x_iload_n 33 C dX0_init_32 rfl rfl ?_
  refine x_aload_n 34 C dX0_init_33 rfl rfl ?_
  refine x_iload 36 C dX0_init_34 rfl rfl ?_
  refine x_iload 38 C dX0_init_36 rfl rfl ?_
  refine x_callS (As := [_, _, _, _]) 41 0 0 C vw_X0_28 tw_X0_write (c_X0_write hW5 h1 h2 h3 h4) dX0_init_38 rfl rfl rfl ⟨Nat.le_of_ble_eq_true rfl, Nat.le_of_ble_eq_true rfl⟩ (Nat.le_of_ble_eq_true rfl) ⟨by omega, by omega⟩ (fun v G' hq => ?_)
  obtain ⟨q, hq1, rfl, hq2, hq3, hq4⟩ := hq
  have hak : gK (sI (sI (sP (sI (sI (nO G a 3) 300 a n1) 301 a s1) 302 a (some (rkAt G (B 1) h))) 303 a p1) 304 a w) a ≠ 0 := by (show gK (nO G a 3) a ≠ 0; omega)
  have hka2 : gK G' a = 3 := (hq2.1 a hak).trans hka
  refine x_as rfl rfl rfl ?_
  refine x_putO 44 305 C fw_X0_32 (fun _ => hin) dX0_init_41 rfl rfl rfl rfl (by assumption) ?_
  refine x_aload_n 45 C dX0_init_44 rfl rfl ?_
  refine x_iconst 46 C dX0_init_45 rfl ?_
  refine x_putI 49 308 C fw_X0_36 (fun h => by cases h) dX0_init_46 rfl rfl rfl rfl rfl (by assumption) (by first | exact hRw _ _ | assumption | exact ⟨by omega, by omega⟩ | exact hw.1 _ _ | omega) ?_
  exact x_ret C dX0_init_49 (by have e : ∀ k, gI G' k a = gI (sI (sI (sP (sI (sI (nO G a 3) 300 a n1) 301 a s1) 302 a (some (rkAt G (B 1) h))) 303 a p1) 304 a w) k a ∧ gP G' k a = gP (sI (sI (sP (sI (sI (nO G a 3) 300 a n1) 301 a s1) 302 a (some (rkAt G (B 1) h))) 303 a p1) 304 a w) k a := fun k => hq2.2.1 k a hak List.not_mem_nil; exact ⟨rfl, q, fr_sIq hqa (fr_sPq hqa (by decide) (fr_tr hf5 hq2)), hka2, ⟨(e 300).1.trans (show u2 (gI (nO G a 3)) 300 a n1 300 a = _ from u2_s), (e 301).1.trans (show u2 (gI (sI (nO G a 3) 300 a n1)) 301 a s1 301 a = _ from u2_s), (e 302).2.trans (show u2 (gP (nO G a 3)) 302 a (some (rkAt G (B 1) h)) 302 a = _ from u2_s), (e 303).1.trans (show u2 (gI (sI (sI (nO G a 3) 300 a n1) 301 a s1)) 303 a p1 303 a = _ from u2_s), (e 304).1.trans (show u2 (gI (sI (sI (sI (nO G a 3) 300 a n1) 301 a s1) 303 a p1)) 304 a w 304 a = _ from u2_s)⟩, ⟨show u2 (gP G') 305 a (some q) 305 a = _ from u2_s, hq3, hq4⟩, ⟨(e 306).2.trans (nO_P0 rfl), (e 307).1.trans (nO_I0 rfl), show u2 (gI G') 308 a (-1) 308 a = _ from u2_s, (e 309).1.trans (nO_I0 rfl), (e 310).1.trans (nO_I0 rfl), (e 311).1.trans (nO_I0 rfl)⟩, (e 312).2.trans (nO_P0 rfl)⟩)
set_option maxHeartbeats 2000000 in
set_option maxRecDepth 100000 in
theorem c_X11_tellAddress {E : EV} {l : Launch} {G : GT} {B : Nat → Nat} {R : RT} (hW : rkW G B R) {s1 h p1 w : Int} (h1 : 0 ≤ s1 ∧ s1 ≤ 1) (h2 : 0 ≤ h ∧ h < R 3 0) (h3 : 0 ≤ p1 ∧ p1 ≤ 9999) (h4 : 0 ≤ w ∧ w ≤ 999) (hl : l.stackTraces = false) : MX E l yX11_tellAddress cX11_tellAddress 7 (some .int) 9 222 67 10080 [.ref (B 0), .int (i32 s1), .ref (rkAt G (B 1) h), .int (i32 p1), .int (i32 w)] (G) (fun v G' => v = some (.int (i32 (rTells R s1 h p1 w))) ∧ ¬ rTells R s1 h p1 w = -1 ∧ ((G' = G ∧ ¬ rFnd R s1 h p1 w = -1) ∨ (rFnd R s1 h p1 w = -1 ∧ R 7 0 < 24 ∧ ∃ (a q : Nat), gK G a = 0 ∧ rkFr [] [B 2] G G' ∧ gL G' (B 2) = gL G (B 2) ++ [a] ∧ rkNf R G' B a q (R 7 0) s1 (rkAt G (B 1) h) h p1 w))) (fun nx G' => nx = "java/lang/IllegalStateException" ∧ G' = G ∧ rTells R s1 h p1 w = -1) := by
  refine mx_of (own := RX11) (L := [some (.ref (B 0)), some (.int (i32 s1)), some (.ref (rkAt G (B 1) h)), some (.int (i32 p1)), some (.int (i32 w)), none, none]) (by decide +kernel) rfl (Nat.le_of_ble_eq_true rfl) (List.forall_mem_cons.mpr ⟨rfl, (List.forall_mem_cons.mpr ⟨rfl, (List.forall_mem_cons.mpr ⟨rfl, (List.forall_mem_cons.mpr ⟨rfl, (List.forall_mem_cons.mpr ⟨rfl, (fun _ h => absurd h List.not_mem_nil)⟩)⟩)⟩)⟩)⟩) rfl ?_
  intro p e s m args below meth c C hin htab
  refine x_wf (fun hw => ?_)
  obtain ⟨hB, hH, hA, hP, hI⟩ := id hW
  obtain ⟨⟨b0, b6, b7⟩, ⟨bk1, bk2, bk3, bk4, bk5, bk8, bk9⟩, ⟨bp0, bp1, bp2, bp3, bp4, bp5, bp6, bp7, bp8⟩, -⟩ := id hB
  obtain ⟨hl1, hh1⟩ := id hH
  obtain ⟨hl2, hh2⟩ := id hA
  obtain ⟨hl3, hh3⟩ := id hP
  obtain ⟨iH, iA, iAd, iHl, iP, iS, hRw, iU⟩ := id hI
  have iH1 := iH.1
  have iA1 := iA.1
  have iA2 := iA.2
  have iP1 := iP.1
  have hfi := rFnd_in iA s1 h p1 w
  refine x_aload_n 1 C dX11_tellAddress_0 rfl rfl ?_
  refine x_iload_n 2 C dX11_tellAddress_1 rfl rfl ?_
  refine x_aload_n 3 C dX11_tellAddress_2 rfl rfl ?_
  refine x_iload_n 4 C dX11_tellAddress_3 rfl rfl ?_
  refine x_iload 6 C dX11_tellAddress_4 rfl rfl ?_
  refine x_callV (As := [_, _, _, _]) 9 14 67 10080 C vw_X11_166 iw_X11_findAddress sw_X11_findAddress (c_X11_findAddress hW h2 ⟨by omega, by omega⟩ ⟨by omega, by omega⟩ ⟨by omega, by omega⟩) dX11_tellAddress_6 rfl rfl rfl rfl rfl rfl (by assumption) ⟨Nat.le_of_ble_eq_true rfl, Nat.le_of_ble_eq_true rfl⟩ (Nat.le_of_ble_eq_true rfl) ⟨Nat.le_refl _, Nat.le_refl _⟩ (fun v G' hq => ?_)
  obtain ⟨rfl, hG9⟩ := hq
  replace hG9 := hG9.symm
  subst hG9
  refine x_as rfl rfl rfl ?_
  refine x_astoreq 11 C dX11_tellAddress_9 rfl rfl rfl ?_
  refine x_aloadq 13 C dX11_tellAddress_11 rfl rfl ?_
  refine x_ifnull 16 22 C dX11_tellAddress_13 rfl (by decide) (fun h13 => ?_) (fun a13 h13 => ?_)
  · skip
    have n13 := rkOp_none h13
    refine x_aload_n 23 C dX11_tellAddress_22 rfl rfl ?_
    refine x_getO 26 1401 C fr_X11_16 dX11_tellAddress_23 rfl rfl rfl rfl (by assumption) (by assumption) ?_
    refine x_callL (As := []) (ci := 2) 29 67 10080 C vw_X11_66 iw_Jx4a65c_size_8abf5 sw_Jx4a65c_size_8abf5 (c_sizev (by assumption) hl2) dX11_tellAddress_26 rfl rfl rfl rfl rfl (Or.inr (Or.inr ⟨rfl, (by assumption)⟩)) ⟨Nat.le_of_ble_eq_true rfl, Nat.le_of_ble_eq_true rfl⟩ (Nat.le_of_ble_eq_true rfl) ⟨Nat.le_refl _, Nat.le_refl _⟩ (fun v G' hq => ?_)
    obtain ⟨rfl, hG9⟩ := hq
    replace hG9 := hG9.symm
    subst hG9
    refine x_as rfl rfl rfl ?_
    refine x_bipush 31 C dX11_tellAddress_29 rfl (by decide) ?_
    refine x_icmp_lt 34 44 C dX11_tellAddress_31 rfl (by decide) (by first | exact hRw _ _ | assumption | exact ⟨by omega, by omega⟩ | exact hw.1 _ _ | omega) (by first | exact hRw _ _ | assumption | exact ⟨by omega, by omega⟩ | exact hw.1 _ _ | omega) (fun h31 => ?_) (fun h31 => ?_)
    · skip
      refine x_new (kc0 := 66) (ks0 := 10067) 47 3 C nwd_X11_111 rfl rfl dX11_tellAddress_44 rfl ⟨by omega, by omega⟩ (fun q44 hq44 => ?_)
      have nk2q := (nO_K (k := 3) (show gK G (B 2) ≠ 0 by omega) hq44).trans bk2
      have nb0 := (nO_K (k := 3) (show gK G (B 0) ≠ 0 by omega) hq44).trans b0
      have np1 := (nO_P (G := G) (q := q44) (k := 3) (j := 1401) (x := B 0) (by decide)).trans bp1
      refine x_dup 48 C dX11_tellAddress_47 rfl rfl ?_
      refine x_aload_n 49 C dX11_tellAddress_48 rfl rfl ?_
      refine x_getO 52 1401 C fr_X11_16 dX11_tellAddress_49 rfl rfl rfl rfl (by assumption) (by assumption) ?_
      refine x_callL (As := []) (ci := 2) 55 66 10067 C vw_X11_66 iw_Jx4a65c_size_8abf5 sw_Jx4a65c_size_8abf5 (c_sizev (G := nO G q44 3) (v := R 7 0) nk2q hl2) dX11_tellAddress_52 rfl rfl rfl rfl rfl (Or.inr (Or.inr ⟨rfl, (by assumption)⟩)) ⟨Nat.le_of_ble_eq_true rfl, Nat.le_of_ble_eq_true rfl⟩ (Nat.le_of_ble_eq_true rfl) ⟨Nat.le_refl _, Nat.le_refl _⟩ (fun v G' hq => ?_)
      obtain ⟨rfl, hG9⟩ := hq
      replace hG9 := hG9.symm
      subst hG9
      refine x_as rfl rfl rfl ?_
      refine x_iload_n 56 C dX11_tellAddress_55 rfl rfl ?_
      refine x_aload_n 57 C dX11_tellAddress_56 rfl rfl ?_
      refine x_iload_n 58 C dX11_tellAddress_57 rfl rfl ?_
      refine x_iload 60 C dX11_tellAddress_58 rfl rfl ?_
      refine x_callI (As := [_, _, _, _, _]) 63 1 47 C vw_X11_173 iw_X0_init rfl (c_X0_init (w := w) (p1 := p1) (s1 := s1) (h := h) hW hq44 (hRw _ _) h1 h2 h3 h4) dX11_tellAddress_60 rfl rfl rfl ⟨Nat.le_of_ble_eq_true rfl, Nat.le_of_ble_eq_true rfl⟩ (Nat.le_of_ble_eq_true rfl) ⟨by omega, by omega⟩ (fun v G' hq => ?_)
      obtain ⟨rfl, q, hfr, hnf⟩ := hq
      have hB2 := rkB_fr hB hfr (fun k z => by cases z)
      have nb0 := hB2.1.1
      have nk2 := hB2.2.1.2.1
      have np1 := hB2.2.2.1.2.1
      have nl2 : gL G' (B 2) = gL G (B 2) := hfr.2.2.1 (B 2) (by omega) List.not_mem_nil
      have hnk := hnf.1
      refine x_as rfl rfl rfl ?_
      refine x_astore 65 C dX11_tellAddress_63 rfl rfl rfl ?_
      refine x_aload_n 66 C dX11_tellAddress_65 rfl rfl ?_
      refine x_getO 69 1401 C fr_X11_16 dX11_tellAddress_66 rfl rfl rfl rfl (by assumption) (by assumption) ?_
      refine x_aload 71 C dX11_tellAddress_69 rfl rfl ?_
      refine x_callL (As := [_]) (ci := 2) 74 0 7 C vw_X11_78 iw_Jx4a65c_add_9ea2d sw_Jx4a65c_add_9ea2d (c_add (ms := 40) (by assumption) (by omega) (fun x hx => by (rw [nl2] at hx; obtain ⟨i, i0, i1, rfl⟩ := rkAt_mem hl2 hx; have hki := (hh2 i i0 i1).1.1; rw [hfr.1 _ (by omega)]; omega)) (by rw [nl2]; omega)) dX11_tellAddress_71 rfl rfl rfl rfl rfl (Or.inr (Or.inr ⟨rfl, (by assumption)⟩)) ⟨Nat.le_of_ble_eq_true rfl, Nat.le_of_ble_eq_true rfl⟩ (Nat.le_of_ble_eq_true rfl) ⟨by omega, by omega⟩ (fun v G' hq => ?_)
      obtain ⟨rfl, hG9⟩ := hq
      replace hG9 := hG9.symm
      subst hG9
      refine x_as rfl rfl rfl ?_
      refine x_pop 75 C dX11_tellAddress_74 rfl rfl ?_
      refine x_aload 77 C dX11_tellAddress_75 rfl rfl ?_
      refine x_getIv 80 300 C fr_X11_170 dX11_tellAddress_77 rfl rfl rfl rfl hnk (show gI G' 300 q44 = _ from hnf.2.1.1) ?_
      exact x_through (x_iret C dX11_tellAddress_80 rfl (by have ht : rTells R s1 h p1 w = R 7 0 := if_pos ⟨n13, by omega⟩; exact ⟨by rw [ht], by omega, Or.inr ⟨n13, by omega, q44, q, hq44, fr_sL List.mem_cons_self (fr_wide hfr (fun k z => by cases z) (fun k z => by cases z)), sL_s.trans (by rw [nl2]), ⟨hnk, hnf.2.1, ⟨hnf.2.2.1.1, hnf.2.2.1.2.1, (sL_n (fun z => by have h22 := hnf.2.2.1.2.1; rw [z, nk2] at h22; cases h22)).trans hnf.2.2.1.2.2⟩, hnf.2.2.2⟩⟩⟩))
    · skip
      exact x_throw (text := "no room for this address") C hl htab tqS (by decide +kernel) dX11_tellAddress_34 dX11_tellAddress_37 dX11_tellAddress_38 dX11_tellAddress_40 dX11_tellAddress_43 ⟨Nat.le_of_ble_eq_true rfl, Nat.le_of_ble_eq_true rfl⟩ ⟨by omega, by omega⟩ ⟨rfl, rfl, by (unfold rTells; rw [if_neg (by omega)]; exact n13)⟩
  · skip
    have n13 := rkOp_some h13
    obtain ⟨⟨f1, f2, f3, f4, f5, f6⟩, -⟩ := hh2 (rFnd R s1 h p1 w) (by omega) (by have := rFind_in R s1 h p1 w (R 7 0).toNat; have h9 : rFnd R s1 h p1 w = rFind R s1 h p1 w (R 7 0).toNat := rfl; omega)
    refine x_aload (x := rkAt G (B 2) (rFnd R s1 h p1 w)) 18 C dX11_tellAddress_16 rfl (congrArg (fun z => some (some z)) (vrf_s (by omega))) ?_
    refine x_getIv 21 300 C fr_X11_170 dX11_tellAddress_18 rfl rfl rfl rfl (by assumption) (by first | assumption | rfl) ?_
    exact x_through (x_iret C dX11_tellAddress_21 rfl (by have ht : rTells R s1 h p1 w = rFnd R s1 h p1 w := if_neg (fun z => n13.1 z.1); exact ⟨by rw [ht], by rw [ht]; exact n13.1, Or.inl ⟨rfl, n13.1⟩⟩))
