/-! rows laid by program (wip/tools/genp.py) -/
theorem rkSfa_b {bl nv f pt me : Int} : rkSfa bl nv f pt me = (!(decide (¬ bl = 0) && (decide (nv = 0) && decide (pt = -1))) && (!(rHas f 4 || rHas f 8) || (!rHas f 8 && (decide (¬ nv = 0) && decide (me = 0))))) := by
  unfold rkSfa
  by_cases c : bl ≠ 0 ∧ nv = 0 ∧ pt = -1
  · rw [if_pos c, decide_eq_true c.1, decide_eq_true c.2.1, decide_eq_true c.2.2]
    rfl
  · rw [if_neg c]
    have e : (decide (¬ bl = 0) && (decide (nv = 0) && decide (pt = -1))) = false := by
      cases q : (decide (¬ bl = 0) && (decide (nv = 0) && decide (pt = -1)))
      · rfl
      · have q1 := (Bool.and_eq_true _ _).mp q
        have q2 := (Bool.and_eq_true _ _).mp q1.2
        exact absurd ⟨of_decide_eq_true q1.1, of_decide_eq_true q2.1, of_decide_eq_true q2.2⟩ c
    rw [e]
    cases rHas f 4 <;> cases rHas f 8 <;> rfl
theorem rkSnt_bools : ∀ P Q U V H1 S1 A0 BL NV h4 h8 ME : Bool, ((P && (Q && (U || V))) && ((!H1 || S1) && (A0 || (!(BL && (!NV && U)) && (!(h4 || h8) || (!h8 && (NV && ME))))))) = ((P && (Q && ((!H1 || S1) && (U || V)))) && ((A0 || (!(h4 || h8) || ((h4 && !h8) && (NV && ME)))) && !(BL && (!A0 && (!NV && U))))) := by decide
theorem rkSnt_goes {T : RT} {k a w : Int} (hH : RH T) (hp : -1 ≤ T 41 k.toNat ∧ T 41 k.toNat ≤ 31) (hw : -1 ≤ w ∧ w ≤ 31) (hal : T 38 k.toNat = 0 ∨ T 38 k.toNat = 1) : rkSnt T (T 2 0) (T 40 k.toNat) (T 39 k.toNat) (T 37 k.toNat) (T 38 k.toNat) (rkPm (T 41 k.toNat)) a (T 66 0) (T 68 0) (bI (decide (T 62 0 = 2))) (rkPm w) = rGoes T k a w := by
  have e1 : (decide (T 37 k.toNat = T 9 a.toNat) || (decide (T 38 k.toNat = 0) && rIn T (T 9 a.toNat) (T 37 k.toNat))) = rThere T k a := by
    unfold rThere
    rcases hal with h | h
    · rw [if_pos h, decide_eq_true h, Bool.true_and]
      by_cases c : T 37 k.toNat = T 9 a.toNat
      · rw [rIn_stop (Or.inr c.symm), decide_eq_true c, decide_eq_true c.symm]
        rfl
      · rw [decide_eq_false c, Bool.false_or]
    · rw [if_neg (show ¬ T 38 k.toNat = 0 by omega), decide_eq_false (show ¬ T 38 k.toNat = 0 by omega), Bool.false_and, Bool.or_false]
  unfold rkSnt rGoes rFits rComes rLax
  rw [rkSfa_b, e1, rKind_t, decide_eq_decide.mpr (rkPm_no hp), decide_eq_decide.mpr (rkPm_inj hp hw)]
  have e2 : decide (bI (decide (T 62 0 = 2)) = 0) = !decide (T 62 0 = 2) := by cases decide (T 62 0 = 2) <;> rfl
  have e3 : decide (¬ bI (decide (T 62 0 = 2)) = 0) = decide (T 62 0 = 2) := by cases decide (T 62 0 = 2) <;> rfl
  have e4 : decide (¬ T 62 0 = 2) = !decide (T 62 0 = 2) := by by_cases c : T 62 0 = 2 <;> simp [c]
  have e5 : decide (¬ T 68 0 = 0) = !decide (T 68 0 = 0) := by by_cases c : T 68 0 = 0 <;> simp [c]
  rw [e2, e3, e4, e5]
  exact rkSnt_bools _ _ _ _ _ _ _ _ _ _ _ _
theorem rkHv_fr {ks ls : List Nat} {G G' : GT} {B : Nat → Nat} {hp : Nat} {a me ta af nv qt : Int} (h : rkHv G B hp a me ta af nv qt) (hf : rkFr ks ls G G') (hks : ∀ k ∈ ks, k < 700 ∨ 706 ≤ k) (h2 : gL G' (B 2) = gL G (B 2)) : rkHv G' B hp a me ta af nv qt := by
  obtain ⟨h0, h1, h3, h4, h5, h6, h7⟩ := h
  have hx : gK G hp ≠ 0 := by rw [h0]; decide
  have K : ∀ k : Nat, 700 ≤ k → k < 706 → gI G' k hp = gI G k hp ∧ gP G' k hp = gP G k hp := fun k k0 k1 => hf.2.1 k hp hx (fun z => by have := hks k z; omega)
  exact ⟨(hf.1 hp hx).trans h0, (K 700 (by decide) (by decide)).2.trans (h1.trans (by rw [rkAt_same h2])), (K 701 (by decide) (by decide)).1.trans h3, (K 702 (by decide) (by decide)).1.trans h4, (K 703 (by decide) (by decide)).1.trans h5, (K 704 (by decide) (by decide)).1.trans h6, (K 705 (by decide) (by decide)).1.trans h7⟩
/-- what a hop has sent -/
def rkSn (G : GT) (hp ar : Nat) (R : RT) (q : Int) : Prop := gP G 707 hp = some ar ∧ gK G ar = 25 ∧ gI G 708 hp = R 32 q.toNat ∧ ∀ j : Int, 0 ≤ j → j < R 32 q.toNat → gA G ar j.toNat = R 33 (12 * q + j).toNat
/-- nothing of another hop is touched -/
def rkSo (G G' : GT) (hp ar : Nat) : Prop := (∀ x, x ≠ hp → gI G' 708 x = gI G 708 x) ∧ ∀ x, x ≠ ar → ∀ j, gA G' x j = gA G x j
theorem InR_snd {R : RT} {k q : Int} (hC : RC R) (hk : 0 ≤ k ∧ k < R 34 0) (hr : ∀ k j, InR (R k j)) (h32 : R 32 q.toNat ≤ 1000000) (h1 : R 1 0 ≤ 1000000) : ∀ f j, InR (rSnd1 R k q f j) := by
  intro f j
  obtain ⟨c1, c2, c3, c4⟩ := hC.2 k.toNat (by omega)
  have h3 := (hr 32 q.toNat).1
  have h4 := (hr 1 0).1
  unfold rSnd1 u2
  split
  · exact ⟨by omega, by omega⟩
  · split
    · exact hr _ _
    · split
      · exact ⟨by omega, by omega⟩
      · split
        · exact ⟨by omega, by omega⟩
        · exact hr _ _
theorem rkCd_snd {R : RT} {k q : Int} (hk : 0 ≤ k ∧ k < R 34 0) (h : rkCd R) (hu : ∀ i, 0 ≤ i → i < R 34 0 → R 43 i.toNat < R 1 0) : rkCd (rSnd1 R k q) := by
  have e34 : rSnd1 R k q 34 0 = R 34 0 := by
    unfold rSnd1
    rw [u2_k (by decide), u2_k (by decide), u2_k (by decide), u2_k (by decide)]
  have e43 : ∀ i : Nat, rSnd1 R k q 43 i = if i = k.toNat then R 1 0 else R 43 i := fun i => by
    unfold rSnd1
    rw [u2_k (by decide)]
    unfold u2
    by_cases c : i = k.toNat
    · rw [if_pos ⟨rfl, c⟩, if_pos c]
    · rw [if_neg (fun z => c z.2), if_neg c, if_neg (by omega), if_neg (by omega)]
  intro i j hi hj e
  rw [e34] at hi hj
  rw [e43, e43] at e
  have q1 := hu i (by omega) hi
  have q2 := hu j (by omega) hj
  rw [Int.toNat_natCast] at q1 q2
  split at e <;> split at e
  · omega
  · omega
  · omega
  · exact h i j hi hj e
theorem rkC_snd {G : GT} {B : Nat → Nat} {R : RT} {k q : Int} (hB : rkB G B) (hC : rkC G B R) (hk : 0 ≤ k ∧ k < R 34 0) : rkC (sI (sI G 901 (B 6) (gI G 901 (B 6) + 1)) 505 (rkAt G (B 8) k) (gI G 901 (B 6) + 1)) B (rSnd1 R k q) := by
  refine rkC_use hB hC hk (fun f h1 h2 => ?_) (fun i => ?_) ?_
  · funext j
    unfold rSnd1
    rw [u2_k (by omega), u2_k (by omega), u2_k (by omega), u2_k (by omega)]
  · unfold rSnd1
    rw [u2_k (by decide)]
    unfold u2
    by_cases c : i = k.toNat
    · rw [if_pos ⟨rfl, c⟩, if_pos c]
    · rw [if_neg (fun z => c z.2), if_neg c, if_neg (by omega), if_neg (by omega)]
  · unfold rSnd1
    rw [u2_s]
theorem rkSn_snd {G G' : GT} {hp ar : Nat} {R : RT} {k q : Int} (h : rkSn G hp ar R q) (hq : 0 ≤ q) (h0 : 0 ≤ R 32 q.toNat) (e1 : gP G' 707 hp = gP G 707 hp) (e2 : gK G' ar = gK G ar) (e3 : gI G' 708 hp = R 32 q.toNat + 1) (e4 : ∀ j, gA G' ar j = if j = (R 32 q.toNat).toNat then 1000 * R 35 k.toNat + R 36 k.toNat else gA G ar j) : rkSn G' hp ar (rSnd1 R k q) q := by
  obtain ⟨a1, a2, a3, a4⟩ := h
  have e32 : rSnd1 R k q 32 q.toNat = R 32 q.toNat + 1 := by
    unfold rSnd1
    rw [u2_k (by decide), u2_k (by decide), u2_s]
  have e33 : ∀ j : Nat, rSnd1 R k q 33 j = if j = (12 * q + R 32 q.toNat).toNat then 1000 * R 35 k.toNat + R 36 k.toNat else R 33 j := fun j => by
    unfold rSnd1
    rw [u2_k (by decide), u2_k (by decide), u2_k (by decide)]
    unfold u2
    by_cases c : j = (12 * q + R 32 q.toNat).toNat
    · rw [if_pos ⟨rfl, c⟩, if_pos c]
    · rw [if_neg (fun z => c z.2), if_neg c]
  refine ⟨e1.trans a1, e2.trans a2, by rw [e3, e32], fun j j0 j1 => ?_⟩
  rw [e32] at j1
  rw [e4, e33]
  by_cases c : j = R 32 q.toNat
  · rw [if_pos (by omega), if_pos (by omega)]
  · rw [if_neg (by omega), if_neg (by omega)]
    exact a4 j j0 (by omega)
theorem rkCu_snd {R S : RT} {q x : Int} (h : rSI R S q x) (hU : rkCu R) : rkCu S := by
  unfold rkCu
  rw [h.1 34 (by decide) (by decide) (by decide) (by decide), h.1 35 (by decide) (by decide) (by decide) (by decide), h.1 37 (by decide) (by decide) (by decide) (by decide), h.1 39 (by decide) (by decide) (by decide) (by decide), h.1 41 (by decide) (by decide) (by decide) (by decide)]
  exact hU
set_option maxHeartbeats 2000000 in
set_option maxRecDepth 100000 in
theorem c_X4_noteSent {E : EV} {l : Launch} {G : GT} {B : Nat → Nat} {hp ar : Nat} {sc : Int} (hk : gK G hp = 7) (hp7 : gP G 707 hp = some ar) (hak : gK G ar = 25) (hp8 : gI G 708 hp = sc) (hsc : 0 ≤ sc ∧ sc < 10) {x : Nat} {n v w f t ho al pt go : Int} (hx : rkCo G B x n v w f t ho al pt go) (hnr : 0 ≤ n ∧ n ≤ 9) (hvr : 0 ≤ v ∧ v ≤ 999) : MT E l yX4_noteSent cX4_noteSent 2 none 1 20 0 0 [.ref hp, .ref x] (G) (pD none (sI (sA G ar sc.toNat (1000 * n + v)) 708 hp (sc + 1))) := by
  refine mt_of (own := RX4) (L := [some (.ref hp), some (.ref x)]) (by decide +kernel) rfl (Nat.le_of_ble_eq_true rfl) (List.forall_mem_cons.mpr ⟨rfl, (List.forall_mem_cons.mpr ⟨rfl, (fun _ h => absurd h List.not_mem_nil)⟩)⟩) rfl ?_
  intro p e s m args below meth c C hin
  refine x_wf (fun hw => ?_)
  obtain ⟨ck, ⟨cl, cp, lk, l0, l1, l3, l4, l5⟩, cq, c2, c3, c4⟩ := id hx
  have rn : InR n := by (rw [← l0]; exact hw.1 _ _)
  have rv : InR v := by (rw [← l1]; exact hw.1 _ _)
  have rw : InR w := by (rw [← l3]; exact hw.1 _ _)
  have rf : InR f := by (rw [← l4]; exact hw.1 _ _)
  have rt : InR t := by (rw [← l5]; exact hw.1 _ _)
  have ral : InR al := by (rw [← c2]; exact hw.1 _ _)
  have rpt : InR pt := by (rw [← c3]; exact hw.1 _ _)
  have rgo : InR go := by (rw [← c4]; exact hw.1 _ _)
  refine x_aload_n 1 C dX4_noteSent_0 rfl rfl ?_
  refine x_getIv 4 708 C fr_X4_68 dX4_noteSent_1 rfl rfl rfl rfl (by assumption) (by first | assumption | rfl) ?_
  refine x_aload_n 5 C dX4_noteSent_4 rfl rfl ?_
  refine x_getO 8 707 C fr_X4_64 dX4_noteSent_5 rfl rfl rfl rfl (by assumption) (by assumption) ?_
  refine x_alen10 9 C (by assumption) dX4_noteSent_8 rfl ?_
  refine x_icmp_ge 12 38 C dX4_noteSent_9 rfl (by decide) (by first | assumption | exact ⟨by omega, by omega⟩ | exact hw.1 _ _ | omega) (by first | assumption | exact ⟨by omega, by omega⟩ | exact hw.1 _ _ | omega) (fun h9 => ?_) (fun h9 => ?_)
  · skip
    exact absurd h9 (by omega)
  · skip
    refine x_aload_n 13 C dX4_noteSent_12 rfl rfl ?_
    refine x_getO 16 707 C fr_X4_64 dX4_noteSent_13 rfl rfl rfl rfl (by assumption) (by assumption) ?_
    refine x_aload_n 17 C dX4_noteSent_16 rfl rfl ?_
    refine x_getIv 20 708 C fr_X4_68 dX4_noteSent_17 rfl rfl rfl rfl (by assumption) (by first | assumption | rfl) ?_
    refine x_aload_n 21 C dX4_noteSent_20 rfl rfl ?_
    refine x_getO 24 500 C fr_X4_71 dX4_noteSent_21 rfl rfl rfl rfl (by assumption) (by assumption) ?_
    refine x_callV (As := []) 27 6 0 0 C vw_X4_77 iw_X3_nameAndValue sw_X3_nameAndValue (c_X3_nameAndValue (by assumption) (by assumption) (by assumption)) dX4_noteSent_24 rfl rfl rfl rfl rfl rfl (by assumption) ⟨Nat.le_of_ble_eq_true rfl, Nat.le_of_ble_eq_true rfl⟩ (Nat.le_of_ble_eq_true rfl) ⟨Nat.le_refl _, Nat.le_refl _⟩ (fun v G' hq => ?_)
    obtain ⟨rfl, hG9⟩ := hq
    replace hG9 := hG9.symm
    subst hG9
    refine x_as rfl rfl rfl ?_
    refine x_ast10 28 C (by assumption) (by omega) ⟨by omega, by omega⟩ dX4_noteSent_27 rfl ?_
    refine x_aload_n 29 C dX4_noteSent_28 rfl rfl ?_
    refine x_dup 30 C dX4_noteSent_29 rfl rfl ?_
    refine x_getIv 33 708 C fr_X4_68 dX4_noteSent_30 rfl rfl rfl rfl (by assumption) (by first | assumption | rfl) ?_
    refine x_iconst 34 C dX4_noteSent_33 rfl ?_
    refine x_iadd 35 C dX4_noteSent_34 rfl ?_
    refine x_putI 38 708 C fw_X4_68 (fun h => by cases h) dX4_noteSent_35 rfl rfl rfl rfl rfl (by assumption) (by first | assumption | exact ⟨by omega, by omega⟩ | exact hw.1 _ _ | omega) ?_
    exact x_ret C dX4_noteSent_38 ⟨rfl, rfl⟩
set_option maxHeartbeats 2000000 in
set_option maxRecDepth 100000 in
theorem c_X6_send {E : EV} {l : Launch} {G : GT} {B : Nat → Nat} {R : RT} (hW : rkW G B R) {hp ar : Nat} {a bl ta w q : Int} (hC : rkC G B R) (hJ : rkJ R) (hbl : R 2 0 = bl) (hh : rkHv G B hp a (R 66 0) ta (R 68 0) (bI (decide (R 62 0 = 2))) (rkPm w)) (hs : rkSn G hp ar R q) (h0 : 0 ≤ a ∧ a < R 7 0) (hw1 : -1 ≤ w ∧ w ≤ 31) (hq : 0 ≤ q ∧ q < 240) (h32 : R 32 q.toNat = 0) (h10 : R 34 0 ≤ 10) (h1 : 0 ≤ R 1 0 ∧ R 1 0 ≤ 900000) : MT E l yX6_send cX6_send 6 none 4 87 0 0 [.ref (B 6), .ref hp, .int (i32 bl)] (G) (fun v G' => v = none ∧ rkFr [505, 901, 708] [] G G' ∧ rkC G' B (rSends R a w q) ∧ rkSn G' hp ar (rSends R a w q) q ∧ rkJ (rSends R a w q) ∧ rkSo G G' hp ar) := by
  refine mt_of (own := RX6) (L := [some (.ref (B 6)), some (.ref hp), some (.int (i32 bl)), none, none, none]) (by decide +kernel) rfl (Nat.le_of_ble_eq_true rfl) (List.forall_mem_cons.mpr ⟨rfl, (List.forall_mem_cons.mpr ⟨rfl, (List.forall_mem_cons.mpr ⟨rfl, (fun _ h => absurd h List.not_mem_nil)⟩)⟩)⟩) rfl ?_
  intro p e s m args below meth c C hin
  refine x_wf (fun hw => ?_)
  have hRC := hJ.1
  obtain ⟨hB, hH, hA, hP, hI⟩ := id hW
  obtain ⟨⟨b0, b6, b7⟩, ⟨bk1, bk2, bk3, bk4, bk5, bk8, bk9⟩, ⟨bp0, bp1, bp2, bp3, bp4, bp5, bp6, bp7, bp8⟩, -⟩ := id hB
  obtain ⟨hl1, hh1⟩ := id hH
  obtain ⟨hl2, hh2⟩ := id hA
  obtain ⟨hl3, hh3⟩ := id hP
  obtain ⟨iH, iA, iAd, iHl, iP, iS, hRw, iU⟩ := id hI
  have iH1 := iH.1
  have iA1 := iA.1
  have iA2 := iA.2
  have iP1 := iP.1
  have iC1 := hRC.1
  have hbr : InR bl := by (rw [← hbl]; exact hRw _ _)
  refine x_iconst 1 C dX6_send_0 rfl ?_
  refine x_istore_n 2 C dX6_send_1 rfl rfl rfl ?_
  refine x_loop (α := Int × GT × RT × Option Value) (fun ⟨n, G1, S, o4⟩ => (n + 1).toNat) (fun ⟨n, G1, S, o4⟩ => -1 ≤ n ∧ n ≤ 3 ∧ S = rSndL R a w q (3 - n).toNat ∧ rSI R S q (rNh R n) ∧ rkFr [505, 901, 708] [] G G1 ∧ rkC G1 B S ∧ rkSn G1 hp ar S q ∧ rkCd S ∧ (∀ k j, InR (S k j)) ∧ rkSo G G1 hp ar) (fun ⟨n, G1, S, o4⟩ => G1) (fun ⟨n, G1, S, o4⟩ => [some (.ref (B 6)), some (.ref hp), some (.int (i32 bl)), some (.int (i32 n)), o4, none]) (fun _ => []) (3, G, R, none) ⟨by decide, by decide, rfl, rSndL_I (a := a) (w := w) h32 h1.1 0 (by decide), fr_rfl, hC, hs, hJ.2.1, hJ.2.2.2, fun x _ => rfl, fun x _ j => rfl⟩ rfl rfl rfl ?_
  intro aa hI ih
  obtain ⟨n, G1, S, o4⟩ := aa
  (try dsimp only at hI); (try dsimp only at ih); (try dsimp only)
  obtain ⟨i1, i2, i3, i4, i5, i6, i7, i8, i9, i10⟩ := hI
  have ihO := ih
  refine x_iload_n 3 C dX6_send_2 rfl rfl ?_
  refine x_if_lt 6 84 C dX6_send_3 rfl (by decide) (by first | exact hRw _ _ | assumption | exact ⟨by omega, by omega⟩ | exact hw.1 _ _ | omega) (fun h3 => ?_) (fun h3 => ?_)
  · skip
    exact x_ret C dX6_send_84 (by have hfin : S = rSends R a w q := (by rw [i3, show (3 - n).toNat = 4 by omega]; rfl); rw [← hfin]; exact ⟨rfl, i5, i6, i7, ⟨i4.C hRC, i8, rkCu_snd i4 hJ.2.2.1, i9⟩, i10⟩)
  · skip
    refine x_iconst 7 C dX6_send_6 rfl ?_
    refine x_istore 9 C dX6_send_7 rfl rfl rfl ?_
    refine x_loop (α := Int × GT × RT) (fun ⟨k, G2, T⟩ => (R 34 0 - k).toNat) (fun ⟨k, G2, T⟩ => 0 ≤ k ∧ k ≤ R 34 0 ∧ T = rSndK a w q n k.toNat S ∧ rSI R T q (rNh R n + rNg R n k.toNat) ∧ rkFr [505, 901, 708] [] G G2 ∧ rkC G2 B T ∧ rkSn G2 hp ar T q ∧ rkCd T ∧ (∀ k j, InR (T k j)) ∧ rkSo G G2 hp ar) (fun ⟨k, G2, T⟩ => G2) (fun ⟨k, G2, T⟩ => [some (.ref (B 6)), some (.ref hp), some (.int (i32 bl)), some (.int (i32 n)), some (.int (i32 k)), none]) (fun _ => []) (0, G1, S) ⟨by decide, by (try dsimp only); omega, rfl, rSI_mono i4 (by show rNh R n ≤ rNh R n + 0; omega), i5, i6, i7, i8, i9, i10⟩ rfl (by cases o4 <;> rfl) rfl ?_
    intro aa hI ih
    obtain ⟨k, G2, T⟩ := aa
    (try dsimp only at hI); (try dsimp only at ih); (try dsimp only)
    obtain ⟨j1, j2, j3, j4, j5, j6, j7, j8, j9, j10⟩ := hI
    have e34 : T 34 0 = R 34 0 := congrFun (j4.1 34 (by decide) (by decide) (by decide) (by decide)) 0
    have e39 : T 39 k.toNat = R 39 k.toNat := congrFun (j4.1 39 (by decide) (by decide) (by decide) (by decide)) _
    have ek : ((k.toNat : Nat) : Int) = k := by omega
    have hB1 := rkB_fr hB j5 (by decide)
    have nb6 := hB1.1.2.1
    have nk8 := hB1.2.1.2.2.2.2.2.1
    have np7 := hB1.2.2.1.2.2.2.2.2.2.2.1
    obtain ⟨hl8, hh8, hij8, hor8, hlu8, hub8⟩ := id j6
    refine x_wf (fun hw => ?_)
    refine x_iload 11 C dX6_send_9 rfl rfl ?_
    refine x_aload_n 12 C dX6_send_11 rfl rfl ?_
    refine x_getO 15 900 C fr_X6_12 dX6_send_12 rfl rfl rfl rfl (by assumption) (by assumption) ?_
    refine x_callL (As := []) (ci := 2) 18 0 0 C vw_X6_18 iw_Jx4a65c_size_8abf5 sw_Jx4a65c_size_8abf5 (c_sizev (by assumption) hl8) dX6_send_15 rfl rfl rfl rfl rfl (Or.inr (Or.inr ⟨rfl, (by assumption)⟩)) ⟨Nat.le_of_ble_eq_true rfl, Nat.le_of_ble_eq_true rfl⟩ (Nat.le_of_ble_eq_true rfl) ⟨Nat.le_refl _, Nat.le_refl _⟩ (fun v G' hq => ?_)
    obtain ⟨rfl, hG9⟩ := hq
    replace hG9 := hG9.symm
    subst hG9
    refine x_as rfl rfl rfl ?_
    refine x_icmp_ge 21 78 C dX6_send_18 rfl (by decide) (by first | exact hRw _ _ | assumption | exact ⟨by omega, by omega⟩ | exact hw.1 _ _ | omega) (by first | exact hRw _ _ | assumption | exact ⟨by omega, by omega⟩ | exact hw.1 _ _ | omega) (fun h18 => ?_) (fun h18 => ?_)
    · skip
      refine x_iinc 81 C dX6_send_78 rfl rfl rfl rfl ?_
      refine x_goto 2 C dX6_send_81 (by decide) ?_
      exact ihO (n + -1, G2, T, some (.int (i32 k))) ⟨by (try dsimp only); omega, by (try dsimp only); omega, by (try dsimp only); rw [j3, show (3 - (n + -1)).toNat = (3 - n).toNat + 1 by omega, rSndL, ← i3, show 3 - ((3 - n).toNat : Int) = n by omega, show k = R 34 0 by omega], by (try dsimp only); rw [← rNh_end ⟨by omega, by omega⟩, show (R 34 0).toNat = k.toNat by omega]; exact j4, j5, j6, j7, j8, j9, j10⟩ (by (try dsimp only); omega)
    · skip
      have hRT := j4.C hRC
      obtain ⟨tk, gok, xk, agk, prk, alk⟩ := hh8 k j1 (by omega)
      obtain ⟨uk1, uk2, uk3, uk4⟩ := hRT.2 k.toNat (by omega)
      have xkk := xk.1
      obtain ⟨ck, ⟨cl, cp, lk, l0, l1, l3, l4, l5⟩, cq, c2, c3, c4⟩ := id xk
      have hWT := rkW_R (rkW_fr hW j5 (by decide) ⟨List.not_mem_nil, List.not_mem_nil, List.not_mem_nil⟩ (fun x z => by cases z)) j4.Fs j9
      have e2 : gL G2 (B 2) = gL G (B 2) := j5.2.2.1 (B 2) (by omega) List.not_mem_nil
      have e7 : T 7 0 = R 7 0 := congrFun (j4.Fs 7 (by decide) (by decide)) 0
      have hhT : rkHv G2 B hp a (T 66 0) ta (T 68 0) (bI (decide (T 62 0 = 2))) (rkPm w) := by (rw [j4.1 66 (by decide) (by decide) (by decide) (by decide), j4.1 68 (by decide) (by decide) (by decide) (by decide), j4.1 62 (by decide) (by decide) (by decide) (by decide)]; exact rkHv_fr hh j5 (by decide) e2)
      have hmi := rMany_in (T 39 k.toNat)
      have hgs := rkSnt_goes (T := T) (k := k) (a := a) (w := w) hWT.2.2.2.2.1 prk hw1 alk
      have eb : T 2 0 = bl := (congrFun (j4.Fs 2 (by decide) (by decide)) 0).trans hbl
      rw [eb] at hgs
      have e3 : T 3 0 = R 3 0 := congrFun (j4.Fs 3 (by decide) (by decide)) 0
      refine x_aload_n 22 C dX6_send_21 rfl rfl ?_
      refine x_getO 25 900 C fr_X6_12 dX6_send_22 rfl rfl rfl rfl (by assumption) (by assumption) ?_
      refine x_iload 27 C dX6_send_25 rfl rfl ?_
      refine x_callL (As := [_]) (ci := 2) 30 0 0 C vw_X6_22 iw_Jx4a65c_get_915e3 sw_Jx4a65c_get_915e3 (c_get (x := rkAt G2 (B 8) k) (by assumption) (by omega) (rkAt_get hl8 (by omega) (by omega))) dX6_send_27 rfl rfl rfl rfl rfl (Or.inr (Or.inr ⟨rfl, (by assumption)⟩)) ⟨Nat.le_of_ble_eq_true rfl, Nat.le_of_ble_eq_true rfl⟩ (Nat.le_of_ble_eq_true rfl) ⟨Nat.le_refl _, Nat.le_refl _⟩ (fun v G' hq => ?_)
      obtain ⟨rfl, hG9⟩ := hq
      replace hG9 := hG9.symm
      subst hG9
      refine x_as rfl rfl rfl ?_
      refine x_cast 33 C ck_X6_26 rfl rfl xkk dX6_send_30 rfl ?_
      refine x_astore 35 C dX6_send_33 rfl rfl rfl ?_
      refine x_aload 37 C dX6_send_35 rfl rfl ?_
      refine x_getO 40 500 C fr_X6_40 dX6_send_37 rfl rfl rfl rfl (by assumption) (by assumption) ?_
      refine x_getIv 43 603 C fr_X6_44 dX6_send_40 rfl rfl rfl rfl (by assumption) (by first | assumption | rfl) ?_
      refine x_callS (As := [_]) 46 0 0 C vw_X6_49 tw_X11_countSegments (c_X11_countSegments uk2) dX6_send_43 rfl rfl rfl ⟨Nat.le_of_ble_eq_true rfl, Nat.le_of_ble_eq_true rfl⟩ (Nat.le_of_ble_eq_true rfl) ⟨Nat.le_refl _, Nat.le_refl _⟩ (fun v G' hq => ?_)
      obtain ⟨rfl, hG9⟩ := hq
      replace hG9 := hG9.symm
      subst hG9
      refine x_as rfl rfl rfl ?_
      refine x_iload_n 47 C dX6_send_46 rfl rfl ?_
      refine x_icmp_ne 50 72 C dX6_send_47 rfl (by decide) (by first | exact hRw _ _ | assumption | exact ⟨by omega, by omega⟩ | exact hw.1 _ _ | omega) (by first | exact hRw _ _ | assumption | exact ⟨by omega, by omega⟩ | exact hw.1 _ _ | omega) (fun h47 => ?_) (fun h47 => ?_)
      · skip
        have hng : ¬ (rMany (T 39 k.toNat) = n ∧ rGoes T k a w = true) := fun z => h47 z.1
        refine x_iinc 75 C dX6_send_72 rfl rfl rfl rfl ?_
        refine x_goto 9 C dX6_send_75 (by decide) ?_
        have e1 := show (k + 1).toNat = k.toNat + 1 by omega
        first | (have hA1 : rMany (T 39 k.toNat) = n ∧ rGoes T k a w = true := ⟨hmn, hgo⟩; refine x_as rfl rfl rfl (x_less ?_ (ih (k + 1, GN, rSnd1 T k q) ⟨by (try dsimp only); omega, by (try dsimp only); omega, by (try dsimp only); rw [e1, rSndK, ← j3, ek, if_pos hA1], by (try dsimp only); rw [e1, (rNg_step).2 (by rw [← e39]; exact hA1.1), ← Int.add_assoc]; exact rSI_1 k j4, hN1, hN2, hN3, hN4, hN5, hN6⟩ (by (try dsimp only); omega))); exact ⟨rfl, rfl, rfl, rfl, rfl, trivial⟩) | (have hA1 : ¬ (rMany (T 39 k.toNat) = n ∧ rGoes T k a w = true) := hng; refine x_as rfl rfl rfl (x_less ?_ (ih (k + 1, G2, T) ⟨by (try dsimp only); omega, by (try dsimp only); omega, by (try dsimp only); rw [e1, rSndK, ← j3, ek, if_neg hA1], by (try dsimp only); rw [e1]; exact rSI_mono j4 (by have := (rNg_step (R := R) (len := n) (n := k.toNat)).1; omega), j5, j6, j7, j8, j9, j10⟩ (by (try dsimp only); omega))); exact ⟨rfl, rfl, rfl, rfl, rfl, trivial⟩)
      · skip
        have hmn : rMany (T 39 k.toNat) = n := h47
        refine x_aload 52 C dX6_send_50 rfl rfl ?_
        refine x_aload_n 53 C dX6_send_52 rfl rfl ?_
        refine x_iload_n 54 C dX6_send_53 rfl rfl ?_
        refine x_callS (As := [_, _, _]) 57 0 0 C vw_X6_53 tw_X6_isSent (c_X6_isSent hWT hbr xk hhT ⟨h0.1, by omega⟩ uk1 uk2) dX6_send_54 rfl rfl rfl ⟨Nat.le_of_ble_eq_true rfl, Nat.le_of_ble_eq_true rfl⟩ (Nat.le_of_ble_eq_true rfl) ⟨Nat.le_refl _, Nat.le_refl _⟩ (fun v G' hq => ?_)
        obtain ⟨rfl, hG9⟩ := hq
        replace hG9 := hG9.symm
        subst hG9
        refine x_as rfl rfl rfl ?_
        refine x_if_eqB 60 72 C dX6_send_57 rfl (by decide) (fun h57 => ?_) (fun h57 => ?_)
        · skip
          have hng : ¬ (rMany (T 39 k.toNat) = n ∧ rGoes T k a w = true) := fun z => by (rw [hgs] at h57; rw [z.2] at h57; cases h57)
          refine x_iinc 75 C dX6_send_72 rfl rfl rfl rfl ?_
          refine x_goto 9 C dX6_send_75 (by decide) ?_
          have e1 := show (k + 1).toNat = k.toNat + 1 by omega
          first | (have hA1 : rMany (T 39 k.toNat) = n ∧ rGoes T k a w = true := ⟨hmn, hgo⟩; refine x_as rfl rfl rfl (x_less ?_ (ih (k + 1, GN, rSnd1 T k q) ⟨by (try dsimp only); omega, by (try dsimp only); omega, by (try dsimp only); rw [e1, rSndK, ← j3, ek, if_pos hA1], by (try dsimp only); rw [e1, (rNg_step).2 (by rw [← e39]; exact hA1.1), ← Int.add_assoc]; exact rSI_1 k j4, hN1, hN2, hN3, hN4, hN5, hN6⟩ (by (try dsimp only); omega))); exact ⟨rfl, rfl, rfl, rfl, rfl, trivial⟩) | (have hA1 : ¬ (rMany (T 39 k.toNat) = n ∧ rGoes T k a w = true) := hng; refine x_as rfl rfl rfl (x_less ?_ (ih (k + 1, G2, T) ⟨by (try dsimp only); omega, by (try dsimp only); omega, by (try dsimp only); rw [e1, rSndK, ← j3, ek, if_neg hA1], by (try dsimp only); rw [e1]; exact rSI_mono j4 (by have := (rNg_step (R := R) (len := n) (n := k.toNat)).1; omega), j5, j6, j7, j8, j9, j10⟩ (by (try dsimp only); omega))); exact ⟨rfl, rfl, rfl, rfl, rfl, trivial⟩)
        · skip
          have hgo : rGoes T k a w = true := by (rw [← hgs]; exact h57)
          have hks := (rNg_step (R := R) (len := n) (n := k.toNat)).2 (by rw [← e39]; omega)
          have hk9 := rNh_k (R := R) (n := n) (k := k) (by omega) (by omega)
          have hg0 := (rNg_all (R := R) k.toNat)
          have hs32 := j4.2.1
          have hs1 := j4.2.2
          obtain ⟨s1, s2, s3, s4⟩ := id j7
          have hk7 := hhT.1
          refine x_aload_n 61 C dX6_send_60 rfl rfl ?_
          refine x_aload 63 C dX6_send_61 rfl rfl ?_
          refine x_callV (As := [_]) 66 7 0 0 C vw_X6_57 iw_X4_noteSent sw_X4_noteSent (c_X4_noteSent (B := B) hk7 s1 s2 s3 ⟨by omega, by omega⟩ xk uk3 uk4) dX6_send_63 rfl rfl rfl rfl rfl rfl (by assumption) ⟨Nat.le_of_ble_eq_true rfl, Nat.le_of_ble_eq_true rfl⟩ (Nat.le_of_ble_eq_true rfl) ⟨Nat.le_refl _, Nat.le_refl _⟩ (fun v G' hq => ?_)
          obtain ⟨rfl, hG9⟩ := hq
          replace hG9 := hG9.symm
          subst hG9
          refine x_as rfl rfl rfl ?_
          refine x_aload_n 67 C dX6_send_66 rfl rfl ?_
          refine x_aload 69 C dX6_send_67 rfl rfl ?_
          refine x_callV (As := [_]) 72 9 0 0 C vw_X6_63 iw_X6_noteUse sw_X6_noteUse (c_X6_noteUse (lu := gI G2 901 (B 6)) nb6 xkk rfl ⟨hlu8.1, by omega⟩) dX6_send_69 rfl rfl rfl rfl rfl rfl (by assumption) ⟨Nat.le_of_ble_eq_true rfl, Nat.le_of_ble_eq_true rfl⟩ (Nat.le_of_ble_eq_true rfl) ⟨Nat.le_refl _, Nat.le_refl _⟩ (fun v G' hq => ?_)
          obtain ⟨rfl, hG9⟩ := hq
          replace hG9 := hG9.symm
          subst hG9
          obtain ⟨GN, hGN⟩ : ∃ GN : GT, GN = sI (sI (sI (sA G2 ar (T 32 q.toNat).toNat (1000 * T 35 k.toNat + T 36 k.toNat)) 708 hp (T 32 q.toNat + 1)) 901 (B 6) (gI G2 901 (B 6) + 1)) 505 (rkAt G2 (B 8) k) (gI G2 901 (B 6) + 1) := ⟨_, rfl⟩
          refine x_as (G' := GN) hGN rfl rfl ?_
          have hF9 : rkFr [708] [] G2 (sI (sA G2 ar (T 32 q.toNat).toNat (1000 * T 35 k.toNat + T 36 k.toNat)) 708 hp (T 32 q.toNat + 1)) := fr_sI List.mem_cons_self (by decide) (fr_sA (by decide) fr_rfl)
          have hN1 : rkFr [505, 901, 708] [] G GN := by (rw [hGN]; exact fr_sI (by decide) (by decide) (fr_sI (by decide) (by decide) (fr_sI (by decide) (by decide) (fr_sA (by decide) j5))))
          have hC9 : rkC (sI (sA G2 ar (T 32 q.toNat).toNat (1000 * T 35 k.toNat + T 36 k.toNat)) 708 hp (T 32 q.toNat + 1)) B T := rkC_fr hB1 j6 hF9 (by decide) List.not_mem_nil List.not_mem_nil
          have hN2 : rkC GN B (rSnd1 T k q) := by (rw [hGN]; exact rkC_snd (rkB_fr hB1 hF9 (by decide)) hC9 ⟨j1, by omega⟩)
          have hN3 : rkSn GN hp ar (rSnd1 T k q) q := by (rw [hGN]; exact rkSn_snd j7 hq.1 hs32.1 rfl rfl (show u2 (gI (sA G2 ar (T 32 q.toNat).toNat (1000 * T 35 k.toNat + T 36 k.toNat))) 708 hp (T 32 q.toNat + 1) 708 hp = _ from u2_s) (fun j => by (show u2 (gA G2) ar (T 32 q.toNat).toNat (1000 * T 35 k.toNat + T 36 k.toNat) ar j = _; unfold u2; exact (if c : j = (T 32 q.toNat).toNat then (by rw [if_pos ⟨rfl, c⟩, if_pos c]) else (by rw [if_neg (fun z => c z.2), if_neg c])))))
          have hN4 : rkCd (rSnd1 T k q) := rkCd_snd ⟨j1, by omega⟩ j8 (fun i i0 i1 => (hub8 i i0 i1).2)
          have hN5 : ∀ f j, InR (rSnd1 T k q f j) := InR_snd hRT ⟨j1, by omega⟩ j9 (by omega) (by omega)
          have hN6 : rkSo G GN hp ar := by (rw [hGN]; exact ⟨fun x hx => (show u2 (gI (sA G2 ar (T 32 q.toNat).toNat (1000 * T 35 k.toNat + T 36 k.toNat))) 708 hp (T 32 q.toNat + 1) 708 x = _ from u2_a hx).trans (j10.1 x hx), fun x hx j => (show u2 (gA G2) ar (T 32 q.toNat).toNat (1000 * T 35 k.toNat + T 36 k.toNat) x j = _ from u2_k hx).trans (j10.2 x hx j)⟩)
          refine x_iinc 75 C dX6_send_72 rfl rfl rfl rfl ?_
          refine x_goto 9 C dX6_send_75 (by decide) ?_
          have e1 := show (k + 1).toNat = k.toNat + 1 by omega
          first | (have hA1 : rMany (T 39 k.toNat) = n ∧ rGoes T k a w = true := ⟨hmn, hgo⟩; refine x_as rfl rfl rfl (x_less ?_ (ih (k + 1, GN, rSnd1 T k q) ⟨by (try dsimp only); omega, by (try dsimp only); omega, by (try dsimp only); rw [e1, rSndK, ← j3, ek, if_pos hA1], by (try dsimp only); rw [e1, (rNg_step).2 (by rw [← e39]; exact hA1.1), ← Int.add_assoc]; exact rSI_1 k j4, hN1, hN2, hN3, hN4, hN5, hN6⟩ (by (try dsimp only); omega))); exact ⟨rfl, rfl, rfl, rfl, rfl, trivial⟩) | (have hA1 : ¬ (rMany (T 39 k.toNat) = n ∧ rGoes T k a w = true) := hng; refine x_as rfl rfl rfl (x_less ?_ (ih (k + 1, G2, T) ⟨by (try dsimp only); omega, by (try dsimp only); omega, by (try dsimp only); rw [e1, rSndK, ← j3, ek, if_neg hA1], by (try dsimp only); rw [e1]; exact rSI_mono j4 (by have := (rNg_step (R := R) (len := n) (n := k.toNat)).1; omega), j5, j6, j7, j8, j9, j10⟩ (by (try dsimp only); omega))); exact ⟨rfl, rfl, rfl, rfl, rfl, trivial⟩)
