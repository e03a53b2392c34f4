/-! rows laid by program (wip/tools/genp.py) -/
section XLN
variable {E : EV} {p : Program} {l : Launch} {e : Env} {R : Room} {s : State} {m : MethodId} {args : Array Value} {below : List Frame} {meth : Method} {c : Code} {nL mc ms : Nat} {Q : State → Prop} {G : GT} {kc ks pc : Nat} {L : List (Option Value)} {st : List Value}
theorem x_ln {a : Nat} (h : gK G a = 20 ∨ gK G a = 22 ∨ gK G a = 24) (k : (gL G a).length ≤ 1000 → XW E p l e R s m args below meth c nL mc ms Q G kc ks pc L st) : XW E p l e R s m args below meth c nL mc ms Q G kc ks pc L st := by
  intro H locs cells slots ls a1 a2 a3 a4 a5
  obtain ⟨f, ow, g1, g2, g3, g4⟩ := id a1
  refine k ?_ H locs cells slots ls a1 a2 a3 a4 a5
  rcases h with h | h | h
  · obtain ⟨m, d, e1, e2, -⟩ := (g3 a).1 h
    exact e2
  · obtain ⟨d, h1, h2, e1, e2, e3, e4, -⟩ := (g3 a).2.1 h
    exact e4
  · obtain ⟨d, n, g, e1, e2, e3, e4, -⟩ := (g3 a).2.2 h
    exact e4
end XLN
theorem rkPb_InR {w r : Int} (hw : 0 ≤ w ∧ w ≤ 999) (hr : rIsRef r = true) : InR (rkPb w r) := by
  have key : ∀ (m : Nat) (x : Int), m ≤ 4 → 0 ≤ x → ((m = 4 ∧ x ≤ 99) ∨ (m = 3 ∧ x ≤ 999) ∨ (m = 2 ∧ x ≤ 9999) ∨ (m = 1 ∧ x ≤ 99999) ∨ (m = 0 ∧ x ≤ 999999)) → 0 ≤ rkPbF m r x ∧ rkPbF m r x ≤ 999999 := by
    intro m
    induction m with
    | zero => intro x _ h0 h1; exact ⟨h0, by show x ≤ 999999; omega⟩
    | succ m ih =>
      intro x hm h0 h1
      have hc := rPw_c hr
      have hd : 0 ≤ r / rKk (m + 1) := Int.ediv_nonneg (by omega) (by have := rKk_in (m + 1); omega)
      obtain ⟨q, hq⟩ : ∃ q, q = r / rKk (m + 1) := ⟨_, rfl⟩
      show 0 ≤ rkPbF m r (if r / rKk (m + 1) % 10 = 0 then x / 10 else 10 * x + r / rKk (m + 1) % 10) ∧ _
      refine ih _ (by omega) ?_ ?_ <;> rw [← hq] at hd ⊢ <;> split <;> omega
  have hpm := rPm_in r
  have h := key (rPm r) (if r < 2 * rPw r then w / 10 else 0) hpm (by split <;> omega) (by have hx : (if r < 2 * rPw r then w / 10 else 0) ≤ 99 := (by split <;> omega); omega)
  exact ⟨by unfold rkPb; omega, by unfold rkPb; omega⟩
theorem rFind_same {R S : RT} (h : ∀ f j, f ≠ 70 → S f j = R f j) {a b c d : Int} : ∀ n, rFind S a b c d n = rFind R a b c d n := by
  intro n
  induction n with
  | zero => rfl
  | succ n ih =>
    unfold rFind
    rw [h 8 n (by decide), h 9 n (by decide), h 10 n (by decide), h 11 n (by decide), ih]
theorem rFnd_same {R S : RT} (h : ∀ f j, f ≠ 70 → S f j = R f j) {a b c d : Int} : rFnd S a b c d = rFnd R a b c d := by
  unfold rFnd
  rw [h 7 0 (by decide), rFind_same h]
theorem rTells_same {R S : RT} (h : ∀ f j, f ≠ 70 → S f j = R f j) {a b c d : Int} : rTells S a b c d = rTells R a b c d := by
  unfold rTells
  rw [h 7 0 (by decide), rFnd_same h]
theorem rkRslS_out {R : RT} {a r : Int} (f j : Nat) (hf : f ≠ 70) : rRslS R a r f j = R f j := by
  unfold rRslS
  split
  · exact rZ_out hf
  · rfl
theorem rRslW_t {R : RT} {a r : Int} (h : 0 ≤ a ∧ a ≤ R 7 0 - 1) (h2 : rIsRef r = true) : rRslW R a r = rRsd R a r := by
  unfold rRslW rRslIs
  rw [rIsA_t.mpr h, h2]
  exact if_pos rfl
theorem rRslV_t {R : RT} {a r : Int} (h : ¬ rRslW R a r = -1) : rRslV R a r = rTells R (R 8 a.toNat) (R 9 a.toNat) (R 10 a.toNat) (rRslW R a r) := by
  unfold rRslV
  rw [if_neg h, rTells_same (fun f j hf => rkRslS_out f j hf)]
theorem rRslC_1 {R : RT} {a r : Int} (h : ¬ (0 ≤ a ∧ a ≤ R 7 0 - 1)) : rRslC R a r = 1 := if_pos (rbf (fun z => h (rIsA_t.mp z)))
theorem rRslC_2 {R : RT} {a r : Int} (h : 0 ≤ a ∧ a ≤ R 7 0 - 1) (h2 : rRslW R a r = -1) : rRslC R a r = 2 := (if_neg (by rw [rIsA_t.mpr h]; decide)).trans (if_pos h2)
theorem rRslC_3 {R : RT} {a r : Int} (h : 0 ≤ a ∧ a ≤ R 7 0 - 1) (h2 : ¬ rRslW R a r = -1) (h3 : rRslV R a r = -1) : rRslC R a r = 3 := (if_neg (by rw [rIsA_t.mpr h]; decide)).trans ((if_neg h2).trans (if_pos h3))
theorem rRslC_0 {R : RT} {a r : Int} (h : 0 ≤ a ∧ a ≤ R 7 0 - 1) (h2 : ¬ rRslW R a r = -1) (h3 : ¬ rRslV R a r = -1) : rRslC R a r = 0 := (if_neg (by rw [rIsA_t.mpr h]; decide)).trans ((if_neg h2).trans (if_neg h3))
theorem rRslW_no {R : RT} {a r : Int} (h : rIsRef r = false) : rRslW R a r = -1 := by
  unfold rRslW rRslIs
  rw [h, Bool.and_false]
  exact if_neg (by decide)
theorem rTxC_0 {R : RT} {a k : Int} (h : 0 ≤ a ∧ a ≤ R 7 0 - 1) (h2 : ¬ rSign R a k = 32) : rTxC R a k = 0 := by
  unfold rTxC
  rw [rIsA_t.mpr h, decide_eq_true h2]
  exact if_pos rfl
theorem rTxC_1 {R : RT} {a k : Int} (h : ¬ (0 ≤ a ∧ a ≤ R 7 0 - 1) ∨ rSign R a k = 32) : rTxC R a k = 1 := by
  unfold rTxC
  refine if_neg (fun z => ?_)
  have z2 := (Bool.and_eq_true _ _).mp z
  rcases h with h | h
  · exact h (rIsA_t.mp z2.1)
  · exact of_decide_eq_true z2.2 h
theorem rSign_neg {R : RT} {a k : Int} (h : k < 0) : rSign R a k = 32 := if_pos h
set_option maxHeartbeats 2000000 in
set_option maxRecDepth 100000 in
theorem c_X11_address {E : EV} {l : Launch} {G : GT} {B : Nat → Nat} {R : RT} (hW : rkW G B R) {a b c1 d1 : Int} (ha : InR a) (hb : InR b) (hc : InR c1) (hd : InR d1) (hl : l.stackTraces = false) : MX E l yX11_address cX11_address 6 (some .int) 10 248 68 10086 [.ref (B 0), .int (i32 a), .int (i32 b), .int (i32 c1), .int (i32 d1)] (G) (fun v G' => v = some (.int (i32 (rAddr R a b c1 d1))) ∧ rACode R a b c1 d1 = 0 ∧ rkTold G G' B R a b c1 d1) (fun nx G' => G' = G ∧ rkX nx (rACode R a b c1 d1)) := by
  refine mx_of (own := RX11) (L := [some (.ref (B 0)), some (.int (i32 a)), some (.int (i32 b)), some (.int (i32 c1)), some (.int (i32 d1)), none]) (by decide +kernel) rfl (Nat.le_of_ble_eq_true rfl) (List.forall_mem_cons.mpr ⟨rfl, (List.forall_mem_cons.mpr ⟨rfl, (List.forall_mem_cons.mpr ⟨rfl, (List.forall_mem_cons.mpr ⟨rfl, (List.forall_mem_cons.mpr ⟨rfl, (fun _ h => absurd h List.not_mem_nil)⟩)⟩)⟩)⟩)⟩) rfl ?_
  intro p e s m args below meth c C hin htab
  refine x_wf (fun hw => ?_)
  obtain ⟨hB, hH, hA, hP, hI⟩ := id hW
  obtain ⟨⟨b0, b6, b7⟩, ⟨bk1, bk2, bk3, bk4, bk5, bk8, bk9⟩, ⟨bp0, bp1, bp2, bp3, bp4, bp5, bp6, bp7, bp8⟩, -⟩ := id hB
  obtain ⟨hl1, hh1⟩ := id hH
  obtain ⟨hl2, hh2⟩ := id hA
  obtain ⟨hl3, hh3⟩ := id hP
  obtain ⟨iH, iA, iAd, iHl, iP, iS, hRw, iU⟩ := id hI
  have iH1 := iH.1
  have iA1 := iA.1
  have iA2 := iA.2
  have iP1 := iP.1
  refine x_aload_n 1 C dX11_address_0 rfl rfl ?_
  refine x_iload_n 2 C dX11_address_1 rfl rfl ?_
  refine x_callVX (As := [_]) 5 14 67 10080 C htab vw_X11_42 iw_X11_hostAt sw_X11_hostAt (c_X11_hostAt hW hb hl) (aw_i 245 (by decide +kernel) rfl) dX11_address_2 rfl rfl rfl rfl rfl rfl (by assumption) ⟨Nat.le_of_ble_eq_true rfl, Nat.le_of_ble_eq_true rfl⟩ (Nat.le_of_ble_eq_true rfl) ⟨by omega, by omega⟩ (fun nx G' hx => (by obtain ⟨rfl, hG8, hn8⟩ := hx; exact ⟨hG8, rkX1 (rACode_1 (by omega))⟩)) (fun v G' hq => ?_)
  obtain ⟨rfl, hG9, hq1, hq2⟩ := hq
  replace hG9 := hG9.symm
  subst hG9
  refine x_as rfl rfl rfl ?_
  refine x_astore 7 C dX11_address_5 rfl rfl rfl ?_
  refine x_iload_n 8 C dX11_address_7 rfl rfl ?_
  refine x_if_lt 11 35 C dX11_address_8 rfl (by decide) (by first | exact hRw _ _ | assumption | exact ⟨by omega, by omega⟩ | exact hw.1 _ _ | omega) (fun h8 => ?_) (fun h8 => ?_)
  · skip
    exact x_throw (text := "no such scheme, port or path") C hl htab tqA (by decide +kernel) dX11_address_35 dX11_address_38 dX11_address_39 dX11_address_41 dX11_address_44 ⟨Nat.le_of_ble_eq_true rfl, Nat.le_of_ble_eq_true rfl⟩ ⟨by omega, by omega⟩ ⟨rfl, rkX2 (rACode_2 ⟨by omega, by omega⟩ (fun z => by first | omega | (rw [z.2.2] at hpf; cases hpf)))⟩
  · skip
    refine x_iload_n 12 C dX11_address_11 rfl rfl ?_
    refine x_iconst 13 C dX11_address_12 rfl ?_
    refine x_icmp_gt 16 35 C dX11_address_13 rfl (by decide) (by first | exact hRw _ _ | assumption | exact ⟨by omega, by omega⟩ | exact hw.1 _ _ | omega) (by first | exact hRw _ _ | assumption | exact ⟨by omega, by omega⟩ | exact hw.1 _ _ | omega) (fun h13 => ?_) (fun h13 => ?_)
    · skip
      exact x_throw (text := "no such scheme, port or path") C hl htab tqA (by decide +kernel) dX11_address_35 dX11_address_38 dX11_address_39 dX11_address_41 dX11_address_44 ⟨Nat.le_of_ble_eq_true rfl, Nat.le_of_ble_eq_true rfl⟩ ⟨by omega, by omega⟩ ⟨rfl, rkX2 (rACode_2 ⟨by omega, by omega⟩ (fun z => by first | omega | (rw [z.2.2] at hpf; cases hpf)))⟩
    · skip
      refine x_iload_n 17 C dX11_address_16 rfl rfl ?_
      refine x_if_lt 20 35 C dX11_address_17 rfl (by decide) (by first | exact hRw _ _ | assumption | exact ⟨by omega, by omega⟩ | exact hw.1 _ _ | omega) (fun h17 => ?_) (fun h17 => ?_)
      · skip
        exact x_throw (text := "no such scheme, port or path") C hl htab tqA (by decide +kernel) dX11_address_35 dX11_address_38 dX11_address_39 dX11_address_41 dX11_address_44 ⟨Nat.le_of_ble_eq_true rfl, Nat.le_of_ble_eq_true rfl⟩ ⟨by omega, by omega⟩ ⟨rfl, rkX2 (rACode_2 ⟨by omega, by omega⟩ (fun z => by first | omega | (rw [z.2.2] at hpf; cases hpf)))⟩
      · skip
        refine x_iload_n 21 C dX11_address_20 rfl rfl ?_
        refine x_sipush 24 C dX11_address_21 rfl (by decide) ?_
        refine x_icmp_gt 27 35 C dX11_address_24 rfl (by decide) (by first | exact hRw _ _ | assumption | exact ⟨by omega, by omega⟩ | exact hw.1 _ _ | omega) (by first | exact hRw _ _ | assumption | exact ⟨by omega, by omega⟩ | exact hw.1 _ _ | omega) (fun h24 => ?_) (fun h24 => ?_)
        · skip
          exact x_throw (text := "no such scheme, port or path") C hl htab tqA (by decide +kernel) dX11_address_35 dX11_address_38 dX11_address_39 dX11_address_41 dX11_address_44 ⟨Nat.le_of_ble_eq_true rfl, Nat.le_of_ble_eq_true rfl⟩ ⟨by omega, by omega⟩ ⟨rfl, rkX2 (rACode_2 ⟨by omega, by omega⟩ (fun z => by first | omega | (rw [z.2.2] at hpf; cases hpf)))⟩
        · skip
          refine x_iload 29 C dX11_address_27 rfl rfl ?_
          refine x_callS (As := [_]) 32 67 10080 C vw_X11_90 tw_X11_isPath (c_X11_isPath hd) dX11_address_29 rfl rfl rfl ⟨Nat.le_of_ble_eq_true rfl, Nat.le_of_ble_eq_true rfl⟩ (Nat.le_of_ble_eq_true rfl) ⟨Nat.le_refl _, Nat.le_refl _⟩ (fun v G' hq => ?_)
          obtain ⟨rfl, hG9⟩ := hq
          replace hG9 := hG9.symm
          subst hG9
          refine x_as rfl rfl rfl ?_
          refine x_if_neB 35 45 C dX11_address_32 rfl (by decide) (fun h32 => ?_) (fun h32 => ?_)
          · skip
            have hpt := h32
            refine x_aload_n 46 C dX11_address_45 rfl rfl ?_
            refine x_iload_n 47 C dX11_address_46 rfl rfl ?_
            refine x_aload 49 C dX11_address_47 rfl rfl ?_
            refine x_iload_n 50 C dX11_address_49 rfl rfl ?_
            refine x_iload 52 C dX11_address_50 rfl rfl ?_
            refine x_callVX (As := [_, _, _, _]) 55 14 0 0 C htab vw_X11_96 iw_X11_tellAddress sw_X11_tellAddress (c_X11_tellAddress hW ⟨by omega, by omega⟩ ⟨by omega, by omega⟩ ⟨by omega, by omega⟩ (rIsPath_in hpt) hl) (aw_i 492 (by decide +kernel) rfl) dX11_address_52 rfl rfl rfl rfl rfl rfl (by assumption) ⟨Nat.le_of_ble_eq_true rfl, Nat.le_of_ble_eq_true rfl⟩ (Nat.le_of_ble_eq_true rfl) ⟨by omega, by omega⟩ (fun nx G' hx => (by obtain ⟨rfl, hG8, hn8⟩ := hx; exact ⟨hG8, rkX3 (rACode_3 ⟨by omega, by omega⟩ ⟨⟨by omega, by omega⟩, ⟨by omega, by omega⟩, hpt⟩ hn8)⟩)) (fun v G' hq => ?_)
            obtain ⟨rfl, hq3, hq4⟩ := hq
            refine x_as rfl rfl rfl ?_
            exact x_through (x_iret C dX11_address_55 rfl (by have hc0 : rACode R a b c1 d1 = 0 := rACode_0 ⟨by omega, by omega⟩ ⟨⟨by omega, by omega⟩, ⟨by omega, by omega⟩, hpt⟩ hq3; exact ⟨vi (by unfold rAddr; rw [hc0, if_neg (by decide), rAFound_t (rIsH_t.mpr ⟨by omega, by omega⟩) (rAOk_t.mpr ⟨⟨by omega, by omega⟩, ⟨by omega, by omega⟩, hpt⟩)]), hc0, hq4⟩))
          · skip
            have hpf := h32
            exact x_throw (text := "no such scheme, port or path") C hl htab tqA (by decide +kernel) dX11_address_35 dX11_address_38 dX11_address_39 dX11_address_41 dX11_address_44 ⟨Nat.le_of_ble_eq_true rfl, Nat.le_of_ble_eq_true rfl⟩ ⟨by omega, by omega⟩ ⟨rfl, rkX2 (rACode_2 ⟨by omega, by omega⟩ (fun z => by first | omega | (rw [z.2.2] at hpf; cases hpf)))⟩
set_option maxHeartbeats 2000000 in
set_option maxRecDepth 100000 in
theorem c_X11_resolve {E : EV} {l : Launch} {G : GT} {B : Nat → Nat} {R : RT} (hW : rkW G B R) {a r : Int} (ha : InR a) (hr : InR r) (hl : l.stackTraces = false) : MX E l yX11_resolve cX11_resolve 6 (some .int) 10 248 68 10086 [.ref (B 0), .int (i32 a), .int (i32 r)] (G) (fun v G' => v = some (.int (i32 (rRsl R a r))) ∧ rRslC R a r = 0 ∧ rkTold G G' B R (R 8 a.toNat) (R 9 a.toNat) (R 10 a.toNat) (rRslW R a r)) (fun nx G' => G' = G ∧ rkX nx (rRslC R a r)) := by
  refine mx_of (own := RX11) (L := [some (.ref (B 0)), some (.int (i32 a)), some (.int (i32 r)), none, none, none]) (by decide +kernel) rfl (Nat.le_of_ble_eq_true rfl) (List.forall_mem_cons.mpr ⟨rfl, (List.forall_mem_cons.mpr ⟨rfl, (List.forall_mem_cons.mpr ⟨rfl, (fun _ h => absurd h List.not_mem_nil)⟩)⟩)⟩) rfl ?_
  intro p e s m args below meth c C hin htab
  refine x_wf (fun hw => ?_)
  obtain ⟨hB, hH, hA, hP, hI⟩ := id hW
  obtain ⟨⟨b0, b6, b7⟩, ⟨bk1, bk2, bk3, bk4, bk5, bk8, bk9⟩, ⟨bp0, bp1, bp2, bp3, bp4, bp5, bp6, bp7, bp8⟩, -⟩ := id hB
  obtain ⟨hl1, hh1⟩ := id hH
  obtain ⟨hl2, hh2⟩ := id hA
  obtain ⟨hl3, hh3⟩ := id hP
  obtain ⟨iH, iA, iAd, iHl, iP, iS, hRw, iU⟩ := id hI
  have iH1 := iH.1
  have iA1 := iA.1
  have iA2 := iA.2
  have iP1 := iP.1
  refine x_aload_n 1 C dX11_resolve_0 rfl rfl ?_
  refine x_iload_n 2 C dX11_resolve_1 rfl rfl ?_
  refine x_callVX (As := [_]) 5 14 67 10080 C htab vw_X11_100 iw_X11_addressAt sw_X11_addressAt (c_X11_addressAt hW ha hl) (aw_i 828 (by decide +kernel) rfl) dX11_resolve_2 rfl rfl rfl rfl rfl rfl (by assumption) ⟨Nat.le_of_ble_eq_true rfl, Nat.le_of_ble_eq_true rfl⟩ (Nat.le_of_ble_eq_true rfl) ⟨by omega, by omega⟩ (fun nx G' hx => (by obtain ⟨rfl, hG8, hn8⟩ := hx; exact ⟨hG8, rkX1 (rRslC_1 (by omega))⟩)) (fun v G' hq => ?_)
  obtain ⟨rfl, hG9, hq1, hq2⟩ := hq
  replace hG9 := hG9.symm
  subst hG9
  refine x_as rfl rfl rfl ?_
  obtain ⟨⟨a1, a2, a3, a4, a5, a6⟩, -⟩ := hh2 a hq1 hq2
  obtain ⟨d1, d2, d3, d4, -⟩ := iAd a.toNat (by omega)
  have hrp := rPw_c (x := r)
  refine x_astore_n 6 C dX11_resolve_5 rfl rfl rfl ?_
  refine x_iload_n 7 C dX11_resolve_6 rfl rfl ?_
  refine x_callS (As := [_]) 10 67 10080 C vw_X11_104 tw_X11_powerOfReference (c_X11_powerOfReference hr) dX11_resolve_7 rfl rfl rfl ⟨Nat.le_of_ble_eq_true rfl, Nat.le_of_ble_eq_true rfl⟩ (Nat.le_of_ble_eq_true rfl) ⟨Nat.le_refl _, Nat.le_refl _⟩ (fun v G' hq => ?_)
  obtain ⟨rfl, hG9⟩ := hq
  replace hG9 := hG9.symm
  subst hG9
  refine x_as rfl rfl rfl ?_
  refine x_istore 12 C dX11_resolve_10 rfl rfl rfl ?_
  refine x_iload 14 C dX11_resolve_12 rfl rfl ?_
  refine x_if_ne 17 27 C dX11_resolve_14 rfl (by decide) (by split; have := rPw_c (by assumption); exact ⟨by omega, by omega⟩; exact ⟨by omega, by omega⟩) (fun h14 => ?_) (fun h14 => ?_)
  · skip
    have hrf : rIsRef r = true := by (cases q : rIsRef r; exact absurd (if_neg (by rw [q]; decide)) h14; rfl)
    have hpb := rkPb_rsd (R := R) (a := a) (r := r) (iU.2.2 a.toNat (by omega)) hrf
    have hpr := rkPb_InR (w := R 11 a.toNat) (by omega) hrf
    rw [if_pos hrf]
    refine x_aload_n 28 C dX11_resolve_27 rfl rfl ?_
    refine x_getIv 31 304 C fr_X11_110 dX11_resolve_28 rfl rfl rfl rfl (by assumption) (by first | assumption | rfl) ?_
    refine x_iload_n 32 C dX11_resolve_31 rfl rfl ?_
    refine x_iload 34 C dX11_resolve_32 rfl rfl ?_
    refine x_callS (As := [_, _, _]) 37 67 10080 C vw_X11_115 tw_X11_pathBehind (c_X11_pathBehind ⟨by omega, by omega⟩ hrf) dX11_resolve_34 rfl rfl rfl ⟨Nat.le_of_ble_eq_true rfl, Nat.le_of_ble_eq_true rfl⟩ (Nat.le_of_ble_eq_true rfl) ⟨Nat.le_refl _, Nat.le_refl _⟩ (fun v G' hq => ?_)
    obtain ⟨rfl, hG9⟩ := hq
    replace hG9 := hG9.symm
    subst hG9
    refine x_as rfl rfl rfl ?_
    refine x_istore 39 C dX11_resolve_37 rfl rfl rfl ?_
    refine x_iload 41 C dX11_resolve_39 rfl rfl ?_
    refine x_sipush 44 C dX11_resolve_41 rfl (by decide) ?_
    refine x_icmp_le 47 57 C dX11_resolve_44 rfl (by decide) hpr (by first | exact hRw _ _ | assumption | exact ⟨by omega, by omega⟩ | exact hw.1 _ _ | omega) (fun h44 => ?_) (fun h44 => ?_)
    · skip
      have hWe : rRslW R a r = rkPb (R 11 a.toNat) r := (rRslW_t ⟨by omega, by omega⟩ hrf).trans (by omega)
      have hWn : ¬ rRslW R a r = -1 := by omega
      refine x_aload_n 58 C dX11_resolve_57 rfl rfl ?_
      refine x_aload_n 59 C dX11_resolve_58 rfl rfl ?_
      refine x_getIv 62 301 C fr_X11_121 dX11_resolve_59 rfl rfl rfl rfl (by assumption) (by first | assumption | rfl) ?_
      refine x_aload_n 63 C dX11_resolve_62 rfl rfl ?_
      refine x_getO 66 302 C fr_X11_124 dX11_resolve_63 rfl rfl rfl rfl (by assumption) (by assumption) ?_
      refine x_aload_n 67 C dX11_resolve_66 rfl rfl ?_
      refine x_getIv 70 303 C fr_X11_128 dX11_resolve_67 rfl rfl rfl rfl (by assumption) (by first | assumption | rfl) ?_
      refine x_iload 72 C dX11_resolve_70 rfl rfl ?_
      refine x_callVX (As := [_, _, _, _]) 75 14 0 0 C htab vw_X11_96 iw_X11_tellAddress sw_X11_tellAddress (c_X11_tellAddress hW d1 d2 d3 ⟨by omega, by omega⟩ hl) (aw_i 492 (by decide +kernel) rfl) dX11_resolve_72 rfl rfl rfl rfl rfl rfl (by assumption) ⟨Nat.le_of_ble_eq_true rfl, Nat.le_of_ble_eq_true rfl⟩ (Nat.le_of_ble_eq_true rfl) ⟨by omega, by omega⟩ (fun nx G' hx => (by obtain ⟨rfl, hG8, hn8⟩ := hx; exact ⟨hG8, rkX3 (rRslC_3 ⟨by omega, by omega⟩ hWn (by rw [rRslV_t hWn, hWe]; exact hn8))⟩)) (fun v G' hq => ?_)
      obtain ⟨rfl, hq3, hq4⟩ := hq
      refine x_as rfl rfl rfl ?_
      exact x_through (x_iret C dX11_resolve_75 rfl (by have hv := rRslV_t hWn; rw [hWe] at hv; have hc0 : rRslC R a r = 0 := rRslC_0 ⟨by omega, by omega⟩ hWn (by rw [hv]; exact hq3); exact ⟨vi (by unfold rRsl; rw [hc0, if_neg (by decide), hv]), hc0, by rw [hWe]; exact hq4⟩))
    · skip
      exact x_throw (text := "too many segments") C hl htab tqA (by decide +kernel) dX11_resolve_47 dX11_resolve_50 dX11_resolve_51 dX11_resolve_53 dX11_resolve_56 ⟨Nat.le_of_ble_eq_true rfl, Nat.le_of_ble_eq_true rfl⟩ ⟨by omega, by omega⟩ ⟨rfl, rkX2 (rRslC_2 ⟨by omega, by omega⟩ ((rRslW_t ⟨by omega, by omega⟩ hrf).trans (by omega)))⟩
  · skip
    have hrf : rIsRef r = false := by (cases q : rIsRef r; rfl; exfalso; rw [if_pos q] at h14; have := hrp q; omega)
    exact x_throw (text := "no such reference") C hl htab tqA (by decide +kernel) dX11_resolve_17 dX11_resolve_20 dX11_resolve_21 dX11_resolve_23 dX11_resolve_26 ⟨Nat.le_of_ble_eq_true rfl, Nat.le_of_ble_eq_true rfl⟩ ⟨by omega, by omega⟩ ⟨rfl, rkX2 (rRslC_2 ⟨by omega, by omega⟩ (rRslW_no hrf))⟩
set_option maxHeartbeats 2000000 in
set_option maxRecDepth 100000 in
theorem c_X11_text {E : EV} {l : Launch} {G : GT} {B : Nat → Nat} {R : RT} (hW : rkW G B R) {a k : Int} (ha : InR a) (hk : InR k) (hl : l.stackTraces = false) : MX E l yX11_text cX11_text 4 (some .char) 7 105 2 12 [.ref (B 0), .int (i32 a), .int (i32 k)] (G) (fun v G' => v = some (.int (i32 (rTx R a k))) ∧ rTxC R a k = 0 ∧ G' = G) (fun nx G' => G' = G ∧ rkX nx (rTxC R a k)) := by
  refine mx_of (own := RX11) (L := [some (.ref (B 0)), some (.int (i32 a)), some (.int (i32 k)), none]) (by decide +kernel) rfl (Nat.le_of_ble_eq_true rfl) (List.forall_mem_cons.mpr ⟨rfl, (List.forall_mem_cons.mpr ⟨rfl, (List.forall_mem_cons.mpr ⟨rfl, (fun _ h => absurd h List.not_mem_nil)⟩)⟩)⟩) rfl ?_
  intro p e s m args below meth c C hin htab
  refine x_wf (fun hw => ?_)
  obtain ⟨hB, hH, hA, hP, hI⟩ := id hW
  obtain ⟨⟨b0, b6, b7⟩, ⟨bk1, bk2, bk3, bk4, bk5, bk8, bk9⟩, ⟨bp0, bp1, bp2, bp3, bp4, bp5, bp6, bp7, bp8⟩, -⟩ := id hB
  obtain ⟨hl1, hh1⟩ := id hH
  obtain ⟨hl2, hh2⟩ := id hA
  obtain ⟨hl3, hh3⟩ := id hP
  obtain ⟨iH, iA, iAd, iHl, iP, iS, hRw, iU⟩ := id hI
  have iH1 := iH.1
  have iA1 := iA.1
  have iA2 := iA.2
  have iP1 := iP.1
  refine x_aload_n 1 C dX11_text_0 rfl rfl ?_
  refine x_iload_n 2 C dX11_text_1 rfl rfl ?_
  refine x_callVX (As := [_]) 5 14 1 6 C htab vw_X11_100 iw_X11_addressAt sw_X11_addressAt (c_X11_addressAt hW ha hl) (aw_i 828 (by decide +kernel) rfl) dX11_text_2 rfl rfl rfl rfl rfl rfl (by assumption) ⟨Nat.le_of_ble_eq_true rfl, Nat.le_of_ble_eq_true rfl⟩ (Nat.le_of_ble_eq_true rfl) ⟨by omega, by omega⟩ (fun nx G' hx => (by obtain ⟨rfl, hG8, hn8⟩ := hx; exact ⟨hG8, rkX1 (rTxC_1 (Or.inl (by omega)))⟩)) (fun v G' hq => ?_)
  obtain ⟨rfl, hG9, hq1, hq2⟩ := hq
  replace hG9 := hG9.symm
  subst hG9
  refine x_as rfl rfl rfl ?_
  obtain ⟨⟨a1, -⟩, ⟨w, a7, a8, a9⟩, -⟩ := hh2 a hq1 hq2
  refine x_ln (a := w) (Or.inr (Or.inl a8)) (fun hlen9 => ?_)
  obtain ⟨d1, d2, -⟩ := iAd a.toNat (by omega)
  have hsi := rSign_in iH iHl (a := a) (k := k) d2
  refine x_getO 8 305 C fr_X11_131 dX11_text_5 rfl rfl rfl rfl (by assumption) (by assumption) ?_
  refine x_astore_n 9 C dX11_text_8 rfl rfl rfl ?_
  refine x_iload_n 10 C dX11_text_9 rfl rfl ?_
  refine x_if_lt 13 21 C dX11_text_10 rfl (by decide) (by first | exact hRw _ _ | assumption | exact ⟨by omega, by omega⟩ | exact hw.1 _ _ | omega) (fun h10 => ?_) (fun h10 => ?_)
  · skip
    exact x_throw (text := "no such character") C hl htab tqI (by decide +kernel) dX11_text_21 dX11_text_24 dX11_text_25 dX11_text_27 dX11_text_30 ⟨Nat.le_of_ble_eq_true rfl, Nat.le_of_ble_eq_true rfl⟩ ⟨by omega, by omega⟩ ⟨rfl, rkX1 (rTxC_1 (Or.inr (by first | exact rSign_neg (by omega) | exact (a9 k (by omega)).2 (by omega))))⟩
  · skip
    refine x_iload_n 14 C dX11_text_13 rfl rfl ?_
    refine x_aload_n 15 C dX11_text_14 rfl rfl ?_
    refine x_callL (As := []) (ci := 0) 18 1 6 C vw_X11_135 iw_J0_length_8abf5 sw_J0_length_8abf5 (c_len a8) dX11_text_15 rfl rfl rfl rfl rfl (Or.inl ⟨rfl, (by assumption)⟩) ⟨Nat.le_of_ble_eq_true rfl, Nat.le_of_ble_eq_true rfl⟩ (Nat.le_of_ble_eq_true rfl) ⟨Nat.le_refl _, Nat.le_refl _⟩ (fun v G' hq => ?_)
    obtain ⟨rfl, hG9⟩ := hq
    replace hG9 := hG9.symm
    subst hG9
    refine x_as rfl rfl rfl ?_
    refine x_icmp_lt 21 31 C dX11_text_18 rfl (by decide) (by first | exact hRw _ _ | assumption | exact ⟨by omega, by omega⟩ | exact hw.1 _ _ | omega) ⟨by omega, by omega⟩ (fun h18 => ?_) (fun h18 => ?_)
    · skip
      refine x_aload_n 32 C dX11_text_31 rfl rfl ?_
      refine x_iload_n 33 C dX11_text_32 rfl rfl ?_
      refine x_as (st' := [.int (i32 ((k.toNat : Nat) : Int)), .ref w]) rfl rfl (by rw [Int.toNat_of_nonneg (by omega)]; try rfl) ?_
      refine x_callL (As := [_]) (ci := 0) 36 1 6 C vw_X11_145 iw_J0_charAt_5068e sw_J0_charAt_5068e (c_chr (i := k.toNat) (x := (gL G w).getD k.toNat 0) a8 (by rw [List.getD_eq_getElem?_getD, List.getElem?_eq_getElem (show k.toNat < (gL G w).length by omega)]; rfl)) dX11_text_33 rfl rfl rfl rfl rfl (Or.inl ⟨rfl, (by assumption)⟩) ⟨Nat.le_of_ble_eq_true rfl, Nat.le_of_ble_eq_true rfl⟩ (Nat.le_of_ble_eq_true rfl) ⟨Nat.le_refl _, Nat.le_refl _⟩ (fun v G' hq => ?_)
      obtain ⟨rfl, hG9⟩ := hq
      replace hG9 := hG9.symm
      subst hG9
      refine x_as rfl rfl rfl ?_
      exact x_through (x_iret C dX11_text_36 (nar_c (by have h9 := ((a9 k (by omega)).1 (by omega)).1; omega)) (by have h9 := (a9 k (by omega)).1 (by omega); have hc0 : rTxC R a k = 0 := rTxC_0 ⟨by omega, by omega⟩ (by omega); exact ⟨vi (by unfold rTx; rw [hc0, if_neg (by decide)]; exact h9.1.symm), hc0, rfl⟩))
    · skip
      exact x_throw (text := "no such character") C hl htab tqI (by decide +kernel) dX11_text_21 dX11_text_24 dX11_text_25 dX11_text_27 dX11_text_30 ⟨Nat.le_of_ble_eq_true rfl, Nat.le_of_ble_eq_true rfl⟩ ⟨by omega, by omega⟩ ⟨rfl, rkX1 (rTxC_1 (Or.inr (by first | exact rSign_neg (by omega) | exact (a9 k (by omega)).2 (by omega))))⟩
