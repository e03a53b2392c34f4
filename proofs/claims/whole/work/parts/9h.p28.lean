/-! rows laid by program (wip/tools/genp.py) -/
/-- how a request ends, hop by hop -/
def rkJf (R : RT) (md pg : Int) (av tv rf lt rd : Int → Int) : Nat → Int → Bool → Int
  | 0, _, w => if md = 0 ∧ w = true then 1 else 0
  | f + 1, j, w => if rkMx R md (av j) pg = true then 2 else if ¬ rf j = 0 then 5 else if lt j = 0 then 3 else if j = 5 ∧ ¬ rd j = 0 then 4 else rkJf R md pg av tv rf lt rd f (j + 1) (w || rkCr R (tv j) (av j) pg)
theorem rkJf_s {R : RT} {md pg : Int} {av tv rf lt rd : Int → Int} {n j : Int} {w : Bool} (h : j < n) : rkJf R md pg av tv rf lt rd (n - j).toNat j w = if rkMx R md (av j) pg = true then 2 else if ¬ rf j = 0 then 5 else if lt j = 0 then 3 else if j = 5 ∧ ¬ rd j = 0 then 4 else rkJf R md pg av tv rf lt rd (n - (j + 1)).toNat (j + 1) (w || rkCr R (tv j) (av j) pg) := by
  rw [show (n - j).toNat = (n - (j + 1)).toNat + 1 by omega, rkJf]
/-- a request that was made, as it will be judged -/
def rkVd (G : GT) (B : Nat → Nat) (R : RT) (r : Int) (x : Nat) : Prop := ∃ (pg md : Int) (ch : Nat) (av tv : Int → Int), (gP G 1300 x = some (rkAt G (B 3) pg) ∧ gI G 1301 x = md ∧ gP G 1304 x = some ch ∧ ∀ i, i < 10 → ch ≠ B i) ∧ (0 ≤ pg ∧ pg < R 24 0) ∧ (0 ≤ R 30 r.toNat ∧ R 30 r.toNat ≤ 6) ∧ (∀ j, 0 ≤ j → j < R 30 r.toNat → (0 ≤ av j ∧ av j < R 7 0) ∧ gP G 700 (rkAt G ch j) = some (rkAt G (B 2) (av j)) ∧ gI G 702 (rkAt G ch j) = tv j) ∧ R 29 r.toNat = rkJf R md pg av tv (fun j => gI G 709 (rkAt G ch j)) (fun j => gI G 710 (rkAt G ch j)) (fun j => gI G 711 (rkAt G ch j)) (R 30 r.toNat).toNat 0 false
def rkPs (G : GT) (B : Nat → Nat) (R : RT) : Prop := rkPast G B R ∧ ∀ r, 0 ≤ r → r < R 28 0 → rkVd G B R r (rkAt G (B 4) r)
set_option maxHeartbeats 2000000 in
set_option maxRecDepth 100000 in
theorem c_X11_judge {E : EV} {l : Launch} {G : GT} {B : Nat → Nat} {R : RT} (hW : rkW G B R) {rq : Nat} {pg md cr hd me ta0 af0 : Int} (hr : rkRq G B rq pg md cr hd me ta0 af0) (h61 : 0 ≤ pg ∧ pg < R 24 0) {ch : Nat} {n : Int} {av tv : Int → Int} (hch : gP G 1304 rq = some ch ∧ gK G ch = 20) (hl : ((gL G ch).length : Int) = n) (hn : n ≤ 6) (hhp : ∀ j, 0 ≤ j → j < n → (0 ≤ av j ∧ av j < R 7 0) ∧ ∃ me2 af nv qt : Int, rkHv G B (rkAt G ch j) (av j) me2 (tv j) af nv qt) : MT E l yX11_judge cX11_judge 4 (some .int) 3 64 0 0 [.ref rq] (G) (pD (some (.int (i32 (rkJf R md pg av tv (fun j => gI G 709 (rkAt G ch j)) (fun j => gI G 710 (rkAt G ch j)) (fun j => gI G 711 (rkAt G ch j)) n.toNat 0 false)))) (G)) := by
  refine mt_of (own := RX11) (L := [some (.ref rq), none, none, none]) (by decide +kernel) rfl (Nat.le_of_ble_eq_true rfl) (List.forall_mem_cons.mpr ⟨rfl, (fun _ h => absurd h List.not_mem_nil)⟩) rfl ?_
  intro p e s m args below meth c C hin
  refine x_wf (fun hw => ?_)
  obtain ⟨hB, hH, hA, hP, hI⟩ := id hW
  obtain ⟨⟨b0, b6, b7⟩, ⟨bk1, bk2, bk3, bk4, bk5, bk8, bk9⟩, ⟨bp0, bp1, bp2, bp3, bp4, bp5, bp6, bp7, bp8⟩, -⟩ := id hB
  obtain ⟨hl1, hh1⟩ := id hH
  obtain ⟨hl2, hh2⟩ := id hA
  obtain ⟨hl3, hh3⟩ := id hP
  obtain ⟨iH, iA, iAd, iHl, iP, iS, hRw, iU⟩ := id hI
  have iH1 := iH.1
  have iA1 := iA.1
  have iA2 := iA.2
  have iP1 := iP.1
  obtain ⟨rk, r0, r1, r2, r3, r5, r6, r7⟩ := id hr
  have rmd : InR md := by (rw [← r1]; exact hw.1 _ _)
  have rcr : InR cr := by (rw [← r2]; exact hw.1 _ _)
  have rhd : InR hd := by (rw [← r3]; exact hw.1 _ _)
  have rm5 : InR me := by (rw [← r5]; exact hw.1 _ _)
  have rt6 : InR ta0 := by (rw [← r6]; exact hw.1 _ _)
  have rf7 : InR af0 := by (rw [← r7]; exact hw.1 _ _)
  obtain ⟨g1, g2, g3, g4⟩ := hh3 pg h61.1 h61.2
  obtain ⟨u1, u2, u3⟩ := iP.2 pg.toNat (by omega)
  obtain ⟨⟨m1, m2, m3, m4, m5, m6⟩, -⟩ := hh2 (R 25 pg.toNat) u1.1 u1.2
  obtain ⟨xc, ck⟩ := id hch
  refine x_iconst 1 C dX11_judge_0 rfl ?_
  refine x_istore_n 2 C dX11_judge_1 rfl rfl rfl ?_
  refine x_iconst 3 C dX11_judge_2 rfl ?_
  refine x_istore_n 4 C dX11_judge_3 rfl rfl rfl ?_
  refine x_loop (α := Int × Bool) (fun ⟨j, w⟩ => (n - j).toNat) (fun ⟨j, w⟩ => (0 ≤ j ∧ j ≤ n) ∧ rkJf R md pg av tv (fun j => gI G 709 (rkAt G ch j)) (fun j => gI G 710 (rkAt G ch j)) (fun j => gI G 711 (rkAt G ch j)) (n - j).toNat j w = rkJf R md pg av tv (fun j => gI G 709 (rkAt G ch j)) (fun j => gI G 710 (rkAt G ch j)) (fun j => gI G 711 (rkAt G ch j)) n.toNat 0 false) (fun ⟨j, w⟩ => G) (fun ⟨j, w⟩ => [some (.ref rq), some (.int (i32 (bI w))), some (.int (i32 j)), none]) (fun _ => []) (0, false) ⟨⟨Int.le_refl _, by omega⟩, by (show rkJf R md pg av tv (fun j => gI G 709 (rkAt G ch j)) (fun j => gI G 710 (rkAt G ch j)) (fun j => gI G 711 (rkAt G ch j)) (n - 0).toNat 0 false = _; rw [Int.sub_zero])⟩ rfl rfl rfl ?_
  intro aa hI ih
  obtain ⟨j, w⟩ := aa
  (try dsimp only at hI); (try dsimp only at ih); (try dsimp only)
  obtain ⟨i1, i2⟩ := hI
  refine x_iload_n 5 C dX11_judge_4 rfl rfl ?_
  refine x_aload_n 6 C dX11_judge_5 rfl rfl ?_
  refine x_getO 9 1304 C fr_X11_287 dX11_judge_6 rfl rfl rfl rfl (by assumption) (by assumption) ?_
  refine x_callL (As := []) (ci := 2) 12 0 0 C vw_X11_66 iw_Jx4a65c_size_8abf5 sw_Jx4a65c_size_8abf5 (c_sizev ck hl) dX11_judge_9 rfl rfl rfl rfl rfl (Or.inr (Or.inr ⟨rfl, ck⟩)) ⟨Nat.le_of_ble_eq_true rfl, Nat.le_of_ble_eq_true rfl⟩ (Nat.le_of_ble_eq_true rfl) ⟨Nat.le_refl _, Nat.le_refl _⟩ (fun v G' hq => ?_)
  obtain ⟨rfl, hG9⟩ := hq
  replace hG9 := hG9.symm
  subst hG9
  refine x_as rfl rfl rfl ?_
  refine x_icmp_ge 15 96 C dX11_judge_12 rfl (by decide) (by first | exact hRw _ _ | assumption | exact ⟨by omega, by omega⟩ | exact hw.1 _ _ | omega) (by first | exact hRw _ _ | assumption | exact ⟨by omega, by omega⟩ | exact hw.1 _ _ | omega) (fun h12 => ?_) (fun h12 => ?_)
  · skip
    refine x_joinv 112 (fun vJ => vJ = if md = 0 ∧ w = true then 1 else 0) ?_ (fun hJ112 => ?_)
    · intro vJ hJ
      subst hJ
      exact x_iret C dX11_judge_112 rfl ⟨vi (by rw [← i2, show (n - j).toNat = 0 by omega, rkJf]), rfl⟩
    · skip
      refine x_aload_n 97 C dX11_judge_96 rfl rfl ?_
      refine x_getIv 100 1301 C fr_X11_294 dX11_judge_97 rfl rfl rfl rfl (by assumption) (by first | assumption | rfl) ?_
      refine x_if_ne 103 111 C dX11_judge_100 rfl (by decide) (by first | exact hRw _ _ | assumption | exact ⟨by omega, by omega⟩ | exact hw.1 _ _ | omega) (fun h100 => ?_) (fun h100 => ?_)
      · skip
        refine x_iconst 112 C dX11_judge_111 rfl ?_
        exact hJ112 _ (by first | rw [if_pos (⟨by omega, h104⟩ : md = 0 ∧ w = true)] | rw [if_neg (show ¬ (md = 0 ∧ w = true) from fun z => by (rw [h104] at z; cases z.2))] | rw [if_neg (show ¬ (md = 0 ∧ w = true) from fun z => h100 z.1)])
      · skip
        refine x_iload_n 104 C dX11_judge_103 rfl rfl ?_
        refine x_if_eqB 107 111 C dX11_judge_104 rfl (by decide) (fun h104 => ?_) (fun h104 => ?_)
        · skip
          refine x_iconst 112 C dX11_judge_111 rfl ?_
          exact hJ112 _ (by first | rw [if_pos (⟨by omega, h104⟩ : md = 0 ∧ w = true)] | rw [if_neg (show ¬ (md = 0 ∧ w = true) from fun z => by (rw [h104] at z; cases z.2))] | rw [if_neg (show ¬ (md = 0 ∧ w = true) from fun z => h100 z.1)])
        · skip
          refine x_iconst 108 C dX11_judge_107 rfl ?_
          refine x_goto 112 C dX11_judge_108 (by decide) ?_
          exact hJ112 _ (by first | rw [if_pos (⟨by omega, h104⟩ : md = 0 ∧ w = true)] | rw [if_neg (show ¬ (md = 0 ∧ w = true) from fun z => by (rw [h104] at z; cases z.2))] | rw [if_neg (show ¬ (md = 0 ∧ w = true) from fun z => h100 z.1)])
  · skip
    obtain ⟨ha0, me2, af, nv, qt, hv⟩ := hhp j i1.1 h12
    obtain ⟨hk7, hp0, hp1, hp2, -⟩ := id hv
    refine x_aload_n 16 C dX11_judge_15 rfl rfl ?_
    refine x_getO 19 1304 C fr_X11_287 dX11_judge_16 rfl rfl rfl rfl (by assumption) (by assumption) ?_
    refine x_iload_n 20 C dX11_judge_19 rfl rfl ?_
    refine x_callL (As := [_]) (ci := 2) 23 0 0 C vw_X11_151 iw_Jx4a65c_get_915e3 sw_Jx4a65c_get_915e3 (c_get (x := rkAt G ch j) ck (by omega) (rkAt_get hl (by omega) (by omega))) dX11_judge_20 rfl rfl rfl rfl rfl (Or.inr (Or.inr ⟨rfl, ck⟩)) ⟨Nat.le_of_ble_eq_true rfl, Nat.le_of_ble_eq_true rfl⟩ (Nat.le_of_ble_eq_true rfl) ⟨Nat.le_refl _, Nat.le_refl _⟩ (fun v G' hq => ?_)
    obtain ⟨rfl, hG9⟩ := hq
    replace hG9 := hG9.symm
    subst hG9
    refine x_as rfl rfl rfl ?_
    refine x_cast 26 C ck_X11_282 rfl rfl hk7 dX11_judge_23 rfl ?_
    refine x_astore_n 27 C dX11_judge_26 rfl rfl rfl ?_
    refine x_aload_n 28 C dX11_judge_27 rfl rfl ?_
    refine x_aload_n 29 C dX11_judge_28 rfl rfl ?_
    refine x_getO 32 700 C fr_X11_310 dX11_judge_29 rfl rfl rfl rfl hk7 (by assumption) ?_
    refine x_callS (As := [_, _]) 35 0 0 C vw_X11_290 tw_X11_isMixed (c_X11_isMixed hW hr h61 ha0) dX11_judge_32 rfl rfl rfl ⟨Nat.le_of_ble_eq_true rfl, Nat.le_of_ble_eq_true rfl⟩ (Nat.le_of_ble_eq_true rfl) ⟨Nat.le_refl _, Nat.le_refl _⟩ (fun v G' hq => ?_)
    obtain ⟨rfl, hG9⟩ := hq
    replace hG9 := hG9.symm
    subst hG9
    refine x_as rfl rfl rfl ?_
    refine x_if_eqB 38 40 C dX11_judge_35 rfl (by decide) (fun h35 => ?_) (fun h35 => ?_)
    · skip
      refine x_aload_n 41 C dX11_judge_40 rfl rfl ?_
      refine x_getIv 44 709 C fr_X11_304 dX11_judge_41 rfl rfl rfl rfl hk7 (by first | assumption | rfl) ?_
      refine x_if_eq 47 49 C dX11_judge_44 rfl (by decide) (by first | exact hRw _ _ | assumption | exact ⟨by omega, by omega⟩ | exact hw.1 _ _ | omega) (fun h44 => ?_) (fun h44 => ?_)
      · skip
        refine x_aload_n 50 C dX11_judge_49 rfl rfl ?_
        refine x_getIv 53 710 C fr_X11_329 dX11_judge_50 rfl rfl rfl rfl hk7 (by first | assumption | rfl) ?_
        refine x_if_ne 56 58 C dX11_judge_53 rfl (by decide) (by first | exact hRw _ _ | assumption | exact ⟨by omega, by omega⟩ | exact hw.1 _ _ | omega) (fun h53 => ?_) (fun h53 => ?_)
        · skip
          refine x_join (α := Unit) 72 (fun u => ¬ (j = 5 ∧ ¬ gI G 711 (rkAt G ch j) = 0)) (fun u => G) (fun u => [some (.ref rq), some (.int (i32 (bI w))), some (.int (i32 j)), some (.ref (rkAt G ch j))]) (fun u => []) ?_ (fun hJ72 => ?_)
          · intro aa hJ
            obtain ⟨u, rfl⟩ := (⟨aa, rfl⟩ : ∃ z, z = aa)
            (try dsimp only at hJ); (try dsimp only)
            refine x_joinv 89 (fun vJ => vJ = bI (w || rkCr R (tv j) (av j) pg)) ?_ (fun hJ89 => ?_)
            · intro vJ hJ
              subst hJ
              refine x_istore_n 90 C dX11_judge_89 rfl rfl rfl ?_
              refine x_iinc 93 C dX11_judge_90 rfl rfl rfl rfl ?_
              refine x_goto 4 C dX11_judge_93 (by decide) ?_
              refine x_less ?_ (ih (j + 1, w || rkCr R (tv j) (av j) pg) ⟨⟨by omega, by omega⟩, by rw [← i2, rkJf_s h12, if_neg (by rw [h35]; decide), if_neg (fun z => z h44), if_neg h53, if_neg hJ]⟩ (by (try dsimp only); omega)); exact ⟨rfl, rfl, rfl, trivial⟩
            · skip
              refine x_iload_n 73 C dX11_judge_72 rfl rfl ?_
              refine x_if_neB 76 84 C dX11_judge_73 rfl (by decide) (fun h73 => ?_) (fun h73 => ?_)
              · skip
                refine x_iconst 85 C dX11_judge_84 rfl ?_
                refine x_goto 89 C dX11_judge_85 (by decide) ?_
                exact hJ89 _ (by first | (rw [h73] <;> rfl) | (rw [h73, h81] <;> rfl))
              · skip
                refine x_aload_n 77 C dX11_judge_76 rfl rfl ?_
                refine x_aload_n 78 C dX11_judge_77 rfl rfl ?_
                refine x_callS (As := [_, _]) 81 0 0 C vw_X11_297 tw_X11_isCross (c_X11_isCross hW hr h61 hv ha0) dX11_judge_78 rfl rfl rfl ⟨Nat.le_of_ble_eq_true rfl, Nat.le_of_ble_eq_true rfl⟩ (Nat.le_of_ble_eq_true rfl) ⟨Nat.le_refl _, Nat.le_refl _⟩ (fun v G' hq => ?_)
                obtain ⟨rfl, hG9⟩ := hq
                replace hG9 := hG9.symm
                subst hG9
                refine x_as rfl rfl rfl ?_
                refine x_if_eqB 84 88 C dX11_judge_81 rfl (by decide) (fun h81 => ?_) (fun h81 => ?_)
                · skip
                  refine x_iconst 89 C dX11_judge_88 rfl ?_
                  exact hJ89 _ (by first | (rw [h73] <;> rfl) | (rw [h73, h81] <;> rfl))
                · skip
                  refine x_iconst 85 C dX11_judge_84 rfl ?_
                  refine x_goto 89 C dX11_judge_85 (by decide) ?_
                  exact hJ89 _ (by first | (rw [h73] <;> rfl) | (rw [h73, h81] <;> rfl))
          · skip
            refine x_iload_n 59 C dX11_judge_58 rfl rfl ?_
            refine x_iconst 60 C dX11_judge_59 rfl ?_
            refine x_icmp_ne 63 72 C dX11_judge_60 rfl (by decide) (by first | exact hRw _ _ | assumption | exact ⟨by omega, by omega⟩ | exact hw.1 _ _ | omega) (by first | exact hRw _ _ | assumption | exact ⟨by omega, by omega⟩ | exact hw.1 _ _ | omega) (fun h60 => ?_) (fun h60 => ?_)
            · skip
              exact hJ72 () (fun z => h60 z.1)
            · skip
              refine x_aload_n 64 C dX11_judge_63 rfl rfl ?_
              refine x_getIv 67 711 C fr_X11_342 dX11_judge_64 rfl rfl rfl rfl hk7 (by first | assumption | rfl) ?_
              refine x_if_eq 70 72 C dX11_judge_67 rfl (by decide) (by first | exact hRw _ _ | assumption | exact ⟨by omega, by omega⟩ | exact hw.1 _ _ | omega) (fun h67 => ?_) (fun h67 => ?_)
              · skip
                exact hJ72 () (fun z => z.2 h67)
              · skip
                refine x_iconst 71 C dX11_judge_70 rfl ?_
                exact x_iret C dX11_judge_71 rfl ⟨vi (by rw [← i2, rkJf_s h12, if_neg (by rw [h35]; decide), if_neg (fun z => z h44), if_neg h53, if_pos ⟨h60, h67⟩]), rfl⟩
        · skip
          refine x_iconst 57 C dX11_judge_56 rfl ?_
          exact x_iret C dX11_judge_57 rfl ⟨vi (by rw [← i2, rkJf_s h12, if_neg (by rw [h35]; decide), if_neg (fun z => z h44), if_pos h53]), rfl⟩
      · skip
        refine x_iconst 48 C dX11_judge_47 rfl ?_
        exact x_iret C dX11_judge_48 rfl ⟨vi (by rw [← i2, rkJf_s h12, if_neg (by rw [h35]; decide), if_pos h44]), rfl⟩
    · skip
      refine x_iconst 39 C dX11_judge_38 rfl ?_
      exact x_iret C dX11_judge_39 rfl ⟨vi (by rw [← i2, rkJf_s h12, if_pos h35]), rfl⟩
set_option maxHeartbeats 2000000 in
set_option maxRecDepth 100000 in
theorem c_X11_judged {E : EV} {l : Launch} {G : GT} {B : Nat → Nat} {R : RT} (hW : rkW G B R) (hS : rkPs G B R) {i : Int} (hx : InR i) (hl : l.stackTraces = false) : MX E l yX11_judged cX11_judged 2 (some .int) 7 105 1 6 [.ref (B 0), .int (i32 i)] (G) (fun v G' => v = some (.int (i32 (rJud R i))) ∧ rReqC R i = 0 ∧ G' = G) (fun nx G' => G' = G ∧ rkX nx (rReqC R i)) := by
  refine mx_of (own := RX11) (L := [some (.ref (B 0)), some (.int (i32 i))]) (by decide +kernel) rfl (Nat.le_of_ble_eq_true rfl) (List.forall_mem_cons.mpr ⟨rfl, (List.forall_mem_cons.mpr ⟨rfl, (fun _ h => absurd h List.not_mem_nil)⟩)⟩) rfl ?_
  intro p e s m args below meth c C hin htab
  refine x_wf (fun hw => ?_)
  have hS0 := hS.1
  refine x_aload_n 1 C dX11_judged_0 rfl rfl ?_
  refine x_iload_n 2 C dX11_judged_1 rfl rfl ?_
  refine x_callVX (As := [_]) 5 14 0 0 C htab vw_X11_390 iw_X11_requestAt sw_X11_requestAt (c_X11_requestAt hW hS0 hx hl) (aw_i 1385 (by decide +kernel) rfl) dX11_judged_2 rfl rfl rfl rfl rfl rfl hW.1.1.1 ⟨Nat.le_of_ble_eq_true rfl, Nat.le_of_ble_eq_true rfl⟩ (Nat.le_of_ble_eq_true rfl) ⟨by omega, by omega⟩ (fun nx G' hx => (by obtain ⟨q1, hG8, hn8⟩ := hx; exact ⟨hG8, q1 ▸ rkX1 (if_neg (fun z => hn8 (by have := rIsReq_t.mp z; omega)))⟩)) (fun v G' hq => ?_)
  obtain ⟨rfl, hG9, hq1, hq2⟩ := hq
  replace hG9 := hG9.symm
  subst hG9
  refine x_as rfl rfl rfl ?_
  obtain ⟨xk, ch, xc, ck, hlc, hhc⟩ := hS0.2 i hq1 hq2
  obtain ⟨pg, md, ch2, av, tv, ⟨v1, v2, v3, v4⟩, v5, v6, v7, v8⟩ := hS.2 i hq1 hq2
  have ec : ch2 = ch := Option.some.inj (v3.symm.trans xc)
  subst ec
  have hc0 : rReqC R i = 0 := if_pos (rIsReq_t.mpr (by omega))
  have hhp : ∀ j, 0 ≤ j → j < R 30 i.toNat → (0 ≤ av j ∧ av j < R 7 0) ∧ ∃ me2 af nv qt : Int, rkHv G B (rkAt G ch2 j) (av j) me2 (tv j) af nv qt := fun j j0 j1 => by (obtain ⟨w1, w2, w3⟩ := v7 j j0 j1; obtain ⟨_, _, _, _, _, _, hv, -⟩ := hhc j j0 j1; exact ⟨w1, _, _, _, _, hv.1, w2, rfl, w3, rfl, rfl, rfl⟩)
  refine x_callS (As := [_]) 8 0 0 C vw_X11_249 tw_X11_judge (c_X11_judge hW (rq := rkAt G (B 4) i) ⟨xk, v1, v2, rfl, rfl, rfl, rfl, rfl⟩ v5 ⟨xc, ck⟩ hlc v6.2 hhp) dX11_judged_5 rfl rfl rfl ⟨Nat.le_of_ble_eq_true rfl, Nat.le_of_ble_eq_true rfl⟩ (Nat.le_of_ble_eq_true rfl) ⟨Nat.le_refl _, Nat.le_refl _⟩ (fun v G' hq => ?_)
  obtain ⟨rfl, hG9⟩ := hq
  replace hG9 := hG9.symm
  subst hG9
  refine x_as rfl rfl rfl ?_
  exact x_through (x_iret C dX11_judged_8 rfl ⟨vi (by unfold rJud; rw [hc0, if_neg (show ¬ (0 : Int) < 0 by decide), v8]), hc0, rfl⟩)
