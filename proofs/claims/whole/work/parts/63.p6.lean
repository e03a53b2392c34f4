/-! rows laid by program (wip/tools/genp.py) -/
section XLK
variable {E : EV} {p : Program} {l : Launch} {e : Env} {R : Room} {s : State} {m : MethodId} {args : Array Value} {below : List Frame} {meth : Method} {c : Code} {cc : ByteArray} {nL mc ms : Nat} {ret : Option FieldType} {Q : State → Prop} {G : GT} {kc ks pc : Nat} {L : List (Option Value)} {st : List Value}
theorem x_ldcK0 (n : Nat) (C : CX E p R s m args meth c cc nL RX0 mc ms ret) (d : decode cc pc = .ok (.ldc 42, 2)) (hn : pc + 2 = n)
    (k : XW E p l e R s m args below meth c nL mc ms Q G kc ks n L (.ref (kS E 0) :: st)) : XW E p l e R s m args below meth c nL mc ms Q G kc ks pc L st := x_ldcS n C C.2.2.2.2.2.2.1.2.2.2.2.1.2 d hn k
theorem x_ldcK1 (n : Nat) (C : CX E p R s m args meth c cc nL RX0 mc ms ret) (d : decode cc pc = .ok (.ldc 44, 2)) (hn : pc + 2 = n)
    (k : XW E p l e R s m args below meth c nL mc ms Q G kc ks n L (.ref (kS E 1) :: st)) : XW E p l e R s m args below meth c nL mc ms Q G kc ks pc L st := x_ldcS n C C.2.2.2.2.2.2.1.2.2.2.2.2.1.2 d hn k
end XLK
theorem rkLb_c (w : Int) : (w < 26 ∧ rkLb w = [(97 + w).toNat]) ∨ (26 ≤ w ∧ rkLb w = [(97 + (w - 26) / 26).toNat, (97 + (w - 26) % 26).toNat]) := by
  unfold rkLb
  by_cases h : w < 26
  · rw [if_pos h]
    exact Or.inl ⟨h, rfl⟩
  · rw [if_neg h]
    exact Or.inr ⟨by omega, rfl⟩
def rkRs (R : RT) (i k : Int) : List Nat := if k = -1 then [] else if k = i then rkHt R i else 46 :: rkHt R k
set_option maxHeartbeats 2000000 in
set_option maxRecDepth 100000 in
theorem c_X5_appendTo {E : EV} {l : Launch} {G : GT} {B : Nat → Nat} {R : RT} (hW : rkW G B R) {i : Int} {b : Nat} {xs : List Nat} (h0 : 0 ≤ i ∧ i < R 3 0) (hk : gK G b = 24) (hl : xs.length ≤ 8) : MT E l yX5_appendTo cX5_appendTo 4 none 6 146 51 8160 [.ref (rkAt G (B 1) i), .ref b] (sL G b xs) (pD none (sL G b (xs ++ rkHt R i))) := by
  refine mt_of (own := RX5) (L := [some (.ref (rkAt G (B 1) i)), some (.ref b), none, none]) (by decide +kernel) rfl (Nat.le_of_ble_eq_true rfl) (List.forall_mem_cons.mpr ⟨rfl, (List.forall_mem_cons.mpr ⟨rfl, (fun _ h => absurd h List.not_mem_nil)⟩)⟩) rfl ?_
  intro p e s m args below meth c C hin
  refine x_wf (fun hw => ?_)
  obtain ⟨hB, hH, hA, hP, hI⟩ := id hW
  obtain ⟨⟨b0, b6, b7⟩, ⟨bk1, bk2, bk3, bk4, bk5, bk8, bk9⟩, ⟨bp0, bp1, bp2, bp3, bp4, bp5, bp6, bp7, bp8⟩, -⟩ := id hB
  obtain ⟨hl1, hh1⟩ := id hH
  obtain ⟨hl2, hh2⟩ := id hA
  obtain ⟨hl3, hh3⟩ := id hP
  obtain ⟨iH, iA, iAd, iHl, iP, iS, hRw, iU⟩ := id hI
  have iH1 := iH.1
  have iA1 := iA.1
  have iA2 := iA.2
  have iP1 := iP.1
  have hdi := rDep_in R i
  refine x_aload_n 1 C dX5_appendTo_0 rfl rfl ?_
  refine x_astore_n 2 C dX5_appendTo_1 rfl rfl rfl ?_
  refine x_loopK (α := Int × List Nat) (fun ⟨k, ys⟩ => (k + 1).toNat) (fun ⟨k, ys⟩ => -1 ≤ k ∧ k ≤ i ∧ ys ++ rkRs R i k = xs ++ rkHt R i) (fun ⟨k, ys⟩ => sL G b ys) (fun ⟨k, ys⟩ => [some (.ref (rkAt G (B 1) i)), some (.ref b), some (va_rf (rkOp G (B 1) k)), none]) (fun _ => []) (fun ⟨k, ys⟩ => (3 * rDep R k).toNat) (fun ⟨k, ys⟩ => (480 * rDep R k).toNat) (i, xs) ⟨by (try dsimp only); omega, Int.le_refl _, by (show xs ++ rkRs R i i = _; unfold rkRs; rw [if_neg (by omega), if_pos rfl])⟩ rfl (by (try dsimp only); rw [rkOp_s h0.1]; rfl) rfl ⟨by (try dsimp only); omega, by (try dsimp only); omega⟩ ?_
  intro aa hI ih
  obtain ⟨k, ys⟩ := aa
  (try dsimp only at hI); (try dsimp only at ih); (try dsimp only)
  obtain ⟨i1, i2, i3⟩ := hI
  have hdk := rDep_in R k
  have hln : ys.length + (rkRs R i k).length = xs.length + (rkHt R i).length := by (rw [← List.length_append, i3, List.length_append])
  have hln2 := rkHt_len R i
  refine x_aload_nq 3 C dX5_appendTo_2 rfl rfl ?_
  refine x_ifnull 6 75 C dX5_appendTo_3 rfl (by decide) (fun h3 => ?_) (fun a3 h3 => ?_)
  · skip
    have n3 := rkOp_none h3
    exact x_ret C dX5_appendTo_75 ⟨rfl, by (subst n3; rw [← i3]; show _ = sL G b (ys ++ rkRs R i (-1)); unfold rkRs; rw [if_pos rfl, List.append_nil])⟩
  · skip
    have n3 := rkOp_some h3
    obtain ⟨f1, f2, f3, f4, f5, f6⟩ := hh1 k (by omega) (by omega)
    have hu := iH.2 k.toNat (by omega)
    have hlab := iHl k.toNat (by omega)
    have hds := rDep_step iH i1 (by omega) n3.1
    have hdu := rDep_in R (R 4 k.toNat)
    have hstp := rkHt_step iH (b := k) (by omega) (by omega)
    have hlb := rkLb_c (R 5 k.toNat)
    rw [rkOp_s (show 0 ≤ k by omega)]
    refine x_aload_n 7 C dX5_appendTo_6 rfl rfl ?_
    refine x_aload_n 8 C dX5_appendTo_7 rfl rfl ?_
    refine x_acmp_eq (rx := some _) (ry := some _) 11 18 C dX5_appendTo_8 rfl (by decide) (fun h8 => ?_) (fun h8 => ?_)
    · skip
      have h8 := rkAt_inj (f := 800) (fun i a b => (hh1 i a b).2.1) ⟨by omega, by omega⟩ h0 (Option.some.inj h8)
      obtain ⟨sep, hsep⟩ : ∃ s : List Nat, s = [] := ⟨_, rfl⟩
      have hsl : sep.length ≤ 1 := by (rw [hsep]; exact Nat.le_of_ble_eq_true rfl)
      have hr : ys ++ sep ++ rkHt R k = xs ++ rkHt R i := by (rw [← i3, hsep, List.append_assoc]; unfold rkRs; rw [if_neg (show ¬ k = -1 by omega), if_pos h8, h8]; rfl)
      refine x_as (G' := sL G b (ys ++ sep)) (by rw [hsep, List.append_nil]) rfl rfl ?_
      refine x_aload_n 19 C dX5_appendTo_18 rfl rfl ?_
      refine x_getIv 22 802 C fr_X5_19 dX5_appendTo_19 rfl rfl rfl rfl (by assumption) (by first | assumption | rfl) ?_
      refine x_bipush 24 C dX5_appendTo_22 rfl (by decide) ?_
      refine x_isub 25 C dX5_appendTo_24 rfl ?_
      refine x_istore_n 26 C dX5_appendTo_25 rfl rfl rfl ?_
      refine x_iload_n 27 C dX5_appendTo_26 rfl rfl ?_
      refine x_if_lt 30 43 C dX5_appendTo_27 rfl (by decide) (by first | exact hRw _ _ | assumption | exact ⟨by omega, by omega⟩ | exact hw.1 _ _ | omega) (fun h27 => ?_) (fun h27 => ?_)
      · skip
        refine x_aload_n 44 C dX5_appendTo_43 rfl rfl ?_
        refine x_bipush 46 C dX5_appendTo_44 rfl (by decide) ?_
        refine x_joinv 61 (fun vJ => vJ = if R 5 k.toNat < 26 then R 5 k.toNat else (R 5 k.toNat - 26) % 26) ?_ (fun hJ61 => ?_)
        · intro vJ hJ
          subst hJ
          refine x_iadd 62 C dX5_appendTo_61 rfl ?_
          refine x_i2c 63 C dX5_appendTo_62 rfl (by split <;> omega) ?_
          have hv2 : 0 ≤ (if R 5 k.toNat < 26 then R 5 k.toNat else (R 5 k.toNat - 26) % 26) ∧ (if R 5 k.toNat < 26 then R 5 k.toNat else (R 5 k.toNat - 26) % 26) ≤ 25 := by (split <;> omega)
          refine x_as (st' := [.int (i32 (((97 + (if R 5 k.toNat < 26 then R 5 k.toNat else (R 5 k.toNat - 26) % 26)).toNat : Nat) : Int)), .ref b]) rfl rfl (by rw [Int.toNat_of_nonneg (by omega)]; try rfl) ?_
          refine x_callL (As := [_]) (ci := 1) 66 ((3 * rDep R k).toNat - 1) ((480 * rDep R k).toNat - 160) C vw_X5_29 iw_J4_append_cf468 sw_J4_append_cf468 (c_apC2 (ms := 160) (x := (97 + (if R 5 k.toNat < 26 then R 5 k.toNat else (R 5 k.toNat - 26) % 26)).toNat) hk (by omega) ⟨(by (try simp only [List.length_append, List.length_cons, List.length_nil]); omega), (by (try simp only [List.length_append, List.length_cons, List.length_nil]); omega)⟩) dX5_appendTo_63 rfl rfl rfl rfl rfl (Or.inr (Or.inl ⟨rfl, (by assumption)⟩)) ⟨Nat.le_of_ble_eq_true rfl, Nat.le_of_ble_eq_true rfl⟩ (Nat.le_of_ble_eq_true rfl) ⟨by omega, by omega⟩ (fun v G' hq => ?_)
          obtain ⟨rfl, hG9⟩ := hq
          replace hG9 := hG9.symm
          subst hG9
          refine x_as rfl rfl rfl ?_
          refine x_pop 67 C dX5_appendTo_66 rfl rfl ?_
          refine x_aload_n 68 C dX5_appendTo_67 rfl rfl ?_
          refine x_getPv 71 801 C fr_X5_15 dX5_appendTo_68 rfl rfl rfl rfl (by assumption) (by first | assumption | rfl) ?_
          refine x_astore_nq 72 C dX5_appendTo_71 rfl rfl rfl ?_
          refine x_goto 2 C dX5_appendTo_72 (by decide) ?_
          have hinv : ys ++ sep ++ rkLb (R 5 k.toNat) ++ rkRs R i (R 4 k.toNat) = xs ++ rkHt R i := by (rw [← hr, hstp, List.append_assoc (ys ++ sep)]; unfold rkRs; exact (if c : R 4 k.toNat = -1 then (by rw [if_pos c, if_pos c]) else (by rw [if_neg c, if_neg c, if_neg (by omega)])))
          refine x_as (G' := sL G b (ys ++ sep ++ rkLb (R 5 k.toNat))) (by rcases hlb with ⟨q1, q2⟩ | ⟨q1, q2⟩ <;> first | (exfalso; omega) | (rw [q2, if_pos q1]) | (rw [q2, if_neg (show ¬ R 5 k.toNat < 26 by omega)]; exact congrArg (sL G b) (by simp))) rfl rfl (x_less ?_ (x_weak (by (try dsimp only); omega) (by (try dsimp only); omega) (ih (R 4 k.toNat, ys ++ sep ++ rkLb (R 5 k.toNat)) ⟨by (try dsimp only); omega, by (try dsimp only); omega, hinv⟩ (by (try dsimp only); omega)))); exact ⟨rfl, rfl, rfl, trivial⟩
        · skip
          refine x_iload_n 47 C dX5_appendTo_46 rfl rfl ?_
          refine x_if_lt 50 57 C dX5_appendTo_47 rfl (by decide) (by first | exact hRw _ _ | assumption | exact ⟨by omega, by omega⟩ | exact hw.1 _ _ | omega) (fun h47 => ?_) (fun h47 => ?_)
          · skip
            refine x_aload_n 58 C dX5_appendTo_57 rfl rfl ?_
            refine x_getIv 61 802 C fr_X5_19 dX5_appendTo_58 rfl rfl rfl rfl (by assumption) (by first | assumption | rfl) ?_
            exact hJ61 _ (by first | (exfalso; omega) | rw [if_pos (by omega)] | rw [if_neg (by omega)])
          · skip
            refine x_iload_n 51 C dX5_appendTo_50 rfl rfl ?_
            refine x_bipush 53 C dX5_appendTo_51 rfl (by decide) ?_
            refine x_irem 54 C dX5_appendTo_53 rfl (by omega) ?_
            refine x_goto 61 C dX5_appendTo_54 (by decide) ?_
            exact hJ61 _ (by first | (exfalso; omega) | rw [if_pos (by omega)] | rw [if_neg (by omega)])
      · skip
        refine x_aload_n 31 C dX5_appendTo_30 rfl rfl ?_
        refine x_bipush 33 C dX5_appendTo_31 rfl (by decide) ?_
        refine x_iload_n 34 C dX5_appendTo_33 rfl rfl ?_
        refine x_bipush 36 C dX5_appendTo_34 rfl (by decide) ?_
        refine x_idiv 37 C dX5_appendTo_36 rfl (by omega) ?_
        refine x_iadd 38 C dX5_appendTo_37 rfl ?_
        refine x_i2c 39 C dX5_appendTo_38 rfl (by omega) ?_
        refine x_as (st' := [.int (i32 (((97 + (R 5 k.toNat - 26) / 26).toNat : Nat) : Int)), .ref b]) rfl rfl (by rw [Int.toNat_of_nonneg (by omega)]; try rfl) ?_
        refine x_callL (As := [_]) (ci := 1) 42 ((3 * rDep R k).toNat - 1) ((480 * rDep R k).toNat - 160) C vw_X5_29 iw_J4_append_cf468 sw_J4_append_cf468 (c_apC2 (ms := 160) (x := (97 + (R 5 k.toNat - 26) / 26).toNat) hk (by omega) ⟨(by (try simp only [List.length_append, List.length_cons, List.length_nil]); omega), (by (try simp only [List.length_append, List.length_cons, List.length_nil]); omega)⟩) dX5_appendTo_39 rfl rfl rfl rfl rfl (Or.inr (Or.inl ⟨rfl, (by assumption)⟩)) ⟨Nat.le_of_ble_eq_true rfl, Nat.le_of_ble_eq_true rfl⟩ (Nat.le_of_ble_eq_true rfl) ⟨by omega, by omega⟩ (fun v G' hq => ?_)
        obtain ⟨rfl, hG9⟩ := hq
        replace hG9 := hG9.symm
        subst hG9
        refine x_as rfl rfl rfl ?_
        refine x_pop 43 C dX5_appendTo_42 rfl rfl ?_
        refine x_aload_n 44 C dX5_appendTo_43 rfl rfl ?_
        refine x_bipush 46 C dX5_appendTo_44 rfl (by decide) ?_
        refine x_joinv 61 (fun vJ => vJ = if R 5 k.toNat < 26 then R 5 k.toNat else (R 5 k.toNat - 26) % 26) ?_ (fun hJ61 => ?_)
        · intro vJ hJ
          subst hJ
          refine x_iadd 62 C dX5_appendTo_61 rfl ?_
          refine x_i2c 63 C dX5_appendTo_62 rfl (by split <;> omega) ?_
          have hv2 : 0 ≤ (if R 5 k.toNat < 26 then R 5 k.toNat else (R 5 k.toNat - 26) % 26) ∧ (if R 5 k.toNat < 26 then R 5 k.toNat else (R 5 k.toNat - 26) % 26) ≤ 25 := by (split <;> omega)
          refine x_as (st' := [.int (i32 (((97 + (if R 5 k.toNat < 26 then R 5 k.toNat else (R 5 k.toNat - 26) % 26)).toNat : Nat) : Int)), .ref b]) rfl rfl (by rw [Int.toNat_of_nonneg (by omega)]; try rfl) ?_
          refine x_callL (As := [_]) (ci := 1) 66 (((3 * rDep R k).toNat - 1) - 1) (((480 * rDep R k).toNat - 160) - 160) C vw_X5_29 iw_J4_append_cf468 sw_J4_append_cf468 (c_apC2 (ms := 160) (x := (97 + (if R 5 k.toNat < 26 then R 5 k.toNat else (R 5 k.toNat - 26) % 26)).toNat) hk (by omega) ⟨(by (try simp only [List.length_append, List.length_cons, List.length_nil]); omega), (by (try simp only [List.length_append, List.length_cons, List.length_nil]); omega)⟩) dX5_appendTo_63 rfl rfl rfl rfl rfl (Or.inr (Or.inl ⟨rfl, (by assumption)⟩)) ⟨Nat.le_of_ble_eq_true rfl, Nat.le_of_ble_eq_true rfl⟩ (Nat.le_of_ble_eq_true rfl) ⟨by omega, by omega⟩ (fun v G' hq => ?_)
          obtain ⟨rfl, hG9⟩ := hq
          replace hG9 := hG9.symm
          subst hG9
          refine x_as rfl rfl rfl ?_
          refine x_pop 67 C dX5_appendTo_66 rfl rfl ?_
          refine x_aload_n 68 C dX5_appendTo_67 rfl rfl ?_
          refine x_getPv 71 801 C fr_X5_15 dX5_appendTo_68 rfl rfl rfl rfl (by assumption) (by first | assumption | rfl) ?_
          refine x_astore_nq 72 C dX5_appendTo_71 rfl rfl rfl ?_
          refine x_goto 2 C dX5_appendTo_72 (by decide) ?_
          have hinv : ys ++ sep ++ rkLb (R 5 k.toNat) ++ rkRs R i (R 4 k.toNat) = xs ++ rkHt R i := by (rw [← hr, hstp, List.append_assoc (ys ++ sep)]; unfold rkRs; exact (if c : R 4 k.toNat = -1 then (by rw [if_pos c, if_pos c]) else (by rw [if_neg c, if_neg c, if_neg (by omega)])))
          refine x_as (G' := sL G b (ys ++ sep ++ rkLb (R 5 k.toNat))) (by rcases hlb with ⟨q1, q2⟩ | ⟨q1, q2⟩ <;> first | (exfalso; omega) | (rw [q2, if_pos q1]) | (rw [q2, if_neg (show ¬ R 5 k.toNat < 26 by omega)]; exact congrArg (sL G b) (by simp))) rfl rfl (x_less ?_ (x_weak (by (try dsimp only); omega) (by (try dsimp only); omega) (ih (R 4 k.toNat, ys ++ sep ++ rkLb (R 5 k.toNat)) ⟨by (try dsimp only); omega, by (try dsimp only); omega, hinv⟩ (by (try dsimp only); omega)))); exact ⟨rfl, rfl, rfl, trivial⟩
        · skip
          refine x_iload_n 47 C dX5_appendTo_46 rfl rfl ?_
          refine x_if_lt 50 57 C dX5_appendTo_47 rfl (by decide) (by first | exact hRw _ _ | assumption | exact ⟨by omega, by omega⟩ | exact hw.1 _ _ | omega) (fun h47 => ?_) (fun h47 => ?_)
          · skip
            refine x_aload_n 58 C dX5_appendTo_57 rfl rfl ?_
            refine x_getIv 61 802 C fr_X5_19 dX5_appendTo_58 rfl rfl rfl rfl (by assumption) (by first | assumption | rfl) ?_
            exact hJ61 _ (by first | (exfalso; omega) | rw [if_pos (by omega)] | rw [if_neg (by omega)])
          · skip
            refine x_iload_n 51 C dX5_appendTo_50 rfl rfl ?_
            refine x_bipush 53 C dX5_appendTo_51 rfl (by decide) ?_
            refine x_irem 54 C dX5_appendTo_53 rfl (by omega) ?_
            refine x_goto 61 C dX5_appendTo_54 (by decide) ?_
            exact hJ61 _ (by first | (exfalso; omega) | rw [if_pos (by omega)] | rw [if_neg (by omega)])
    · skip
      have h8 : ¬ k = i := fun z => h8 (by rw [z])
      obtain ⟨sep, hsep⟩ : ∃ s : List Nat, s = [46] := ⟨_, rfl⟩
      have hsl : sep.length ≤ 1 := by (rw [hsep]; exact Nat.le_of_ble_eq_true rfl)
      have hr : ys ++ sep ++ rkHt R k = xs ++ rkHt R i := by (rw [← i3, hsep, List.append_assoc]; unfold rkRs; rw [if_neg (show ¬ k = -1 by omega), if_neg h8]; rfl)
      refine x_aload_n 12 C dX5_appendTo_11 rfl rfl ?_
      refine x_bipush 14 C dX5_appendTo_12 rfl (by decide) ?_
      refine x_as (st' := [.int (i32 ((46 : Nat) : Int)), .ref b]) rfl rfl rfl ?_
      refine x_callL (As := [_]) (ci := 1) 17 ((3 * rDep R k).toNat - 1) ((480 * rDep R k).toNat - 160) C vw_X5_29 iw_J4_append_cf468 sw_J4_append_cf468 (c_apC2 (ms := 160) (x := 46) hk (by omega) ⟨(by (try simp only [List.length_append, List.length_cons, List.length_nil]); omega), (by (try simp only [List.length_append, List.length_cons, List.length_nil]); omega)⟩) dX5_appendTo_14 rfl rfl rfl rfl rfl (Or.inr (Or.inl ⟨rfl, (by assumption)⟩)) ⟨Nat.le_of_ble_eq_true rfl, Nat.le_of_ble_eq_true rfl⟩ (Nat.le_of_ble_eq_true rfl) ⟨by omega, by omega⟩ (fun v G' hq => ?_)
      obtain ⟨rfl, hG9⟩ := hq
      replace hG9 := hG9.symm
      subst hG9
      refine x_as rfl rfl rfl ?_
      refine x_pop 18 C dX5_appendTo_17 rfl rfl ?_
      refine x_as (G' := sL G b (ys ++ sep)) (by rw [hsep]) rfl rfl ?_
      refine x_aload_n 19 C dX5_appendTo_18 rfl rfl ?_
      refine x_getIv 22 802 C fr_X5_19 dX5_appendTo_19 rfl rfl rfl rfl (by assumption) (by first | assumption | rfl) ?_
      refine x_bipush 24 C dX5_appendTo_22 rfl (by decide) ?_
      refine x_isub 25 C dX5_appendTo_24 rfl ?_
      refine x_istore_n 26 C dX5_appendTo_25 rfl rfl rfl ?_
      refine x_iload_n 27 C dX5_appendTo_26 rfl rfl ?_
      refine x_if_lt 30 43 C dX5_appendTo_27 rfl (by decide) (by first | exact hRw _ _ | assumption | exact ⟨by omega, by omega⟩ | exact hw.1 _ _ | omega) (fun h27 => ?_) (fun h27 => ?_)
      · skip
        refine x_aload_n 44 C dX5_appendTo_43 rfl rfl ?_
        refine x_bipush 46 C dX5_appendTo_44 rfl (by decide) ?_
        refine x_joinv 61 (fun vJ => vJ = if R 5 k.toNat < 26 then R 5 k.toNat else (R 5 k.toNat - 26) % 26) ?_ (fun hJ61 => ?_)
        · intro vJ hJ
          subst hJ
          refine x_iadd 62 C dX5_appendTo_61 rfl ?_
          refine x_i2c 63 C dX5_appendTo_62 rfl (by split <;> omega) ?_
          have hv2 : 0 ≤ (if R 5 k.toNat < 26 then R 5 k.toNat else (R 5 k.toNat - 26) % 26) ∧ (if R 5 k.toNat < 26 then R 5 k.toNat else (R 5 k.toNat - 26) % 26) ≤ 25 := by (split <;> omega)
          refine x_as (st' := [.int (i32 (((97 + (if R 5 k.toNat < 26 then R 5 k.toNat else (R 5 k.toNat - 26) % 26)).toNat : Nat) : Int)), .ref b]) rfl rfl (by rw [Int.toNat_of_nonneg (by omega)]; try rfl) ?_
          refine x_callL (As := [_]) (ci := 1) 66 (((3 * rDep R k).toNat - 1) - 1) (((480 * rDep R k).toNat - 160) - 160) C vw_X5_29 iw_J4_append_cf468 sw_J4_append_cf468 (c_apC2 (ms := 160) (x := (97 + (if R 5 k.toNat < 26 then R 5 k.toNat else (R 5 k.toNat - 26) % 26)).toNat) hk (by omega) ⟨(by (try simp only [List.length_append, List.length_cons, List.length_nil]); omega), (by (try simp only [List.length_append, List.length_cons, List.length_nil]); omega)⟩) dX5_appendTo_63 rfl rfl rfl rfl rfl (Or.inr (Or.inl ⟨rfl, (by assumption)⟩)) ⟨Nat.le_of_ble_eq_true rfl, Nat.le_of_ble_eq_true rfl⟩ (Nat.le_of_ble_eq_true rfl) ⟨by omega, by omega⟩ (fun v G' hq => ?_)
          obtain ⟨rfl, hG9⟩ := hq
          replace hG9 := hG9.symm
          subst hG9
          refine x_as rfl rfl rfl ?_
          refine x_pop 67 C dX5_appendTo_66 rfl rfl ?_
          refine x_aload_n 68 C dX5_appendTo_67 rfl rfl ?_
          refine x_getPv 71 801 C fr_X5_15 dX5_appendTo_68 rfl rfl rfl rfl (by assumption) (by first | assumption | rfl) ?_
          refine x_astore_nq 72 C dX5_appendTo_71 rfl rfl rfl ?_
          refine x_goto 2 C dX5_appendTo_72 (by decide) ?_
          have hinv : ys ++ sep ++ rkLb (R 5 k.toNat) ++ rkRs R i (R 4 k.toNat) = xs ++ rkHt R i := by (rw [← hr, hstp, List.append_assoc (ys ++ sep)]; unfold rkRs; exact (if c : R 4 k.toNat = -1 then (by rw [if_pos c, if_pos c]) else (by rw [if_neg c, if_neg c, if_neg (by omega)])))
          refine x_as (G' := sL G b (ys ++ sep ++ rkLb (R 5 k.toNat))) (by rcases hlb with ⟨q1, q2⟩ | ⟨q1, q2⟩ <;> first | (exfalso; omega) | (rw [q2, if_pos q1]) | (rw [q2, if_neg (show ¬ R 5 k.toNat < 26 by omega)]; exact congrArg (sL G b) (by simp))) rfl rfl (x_less ?_ (x_weak (by (try dsimp only); omega) (by (try dsimp only); omega) (ih (R 4 k.toNat, ys ++ sep ++ rkLb (R 5 k.toNat)) ⟨by (try dsimp only); omega, by (try dsimp only); omega, hinv⟩ (by (try dsimp only); omega)))); exact ⟨rfl, rfl, rfl, trivial⟩
        · skip
          refine x_iload_n 47 C dX5_appendTo_46 rfl rfl ?_
          refine x_if_lt 50 57 C dX5_appendTo_47 rfl (by decide) (by first | exact hRw _ _ | assumption | exact ⟨by omega, by omega⟩ | exact hw.1 _ _ | omega) (fun h47 => ?_) (fun h47 => ?_)
          · skip
            refine x_aload_n 58 C dX5_appendTo_57 rfl rfl ?_
            refine x_getIv 61 802 C fr_X5_19 dX5_appendTo_58 rfl rfl rfl rfl (by assumption) (by first | assumption | rfl) ?_
            exact hJ61 _ (by first | (exfalso; omega) | rw [if_pos (by omega)] | rw [if_neg (by omega)])
          · skip
            refine x_iload_n 51 C dX5_appendTo_50 rfl rfl ?_
            refine x_bipush 53 C dX5_appendTo_51 rfl (by decide) ?_
            refine x_irem 54 C dX5_appendTo_53 rfl (by omega) ?_
            refine x_goto 61 C dX5_appendTo_54 (by decide) ?_
            exact hJ61 _ (by first | (exfalso; omega) | rw [if_pos (by omega)] | rw [if_neg (by omega)])
      · skip
        refine x_aload_n 31 C dX5_appendTo_30 rfl rfl ?_
        refine x_bipush 33 C dX5_appendTo_31 rfl (by decide) ?_
        refine x_iload_n 34 C dX5_appendTo_33 rfl rfl ?_
        refine x_bipush 36 C dX5_appendTo_34 rfl (by decide) ?_
        refine x_idiv 37 C dX5_appendTo_36 rfl (by omega) ?_
        refine x_iadd 38 C dX5_appendTo_37 rfl ?_
        refine x_i2c 39 C dX5_appendTo_38 rfl (by omega) ?_
        refine x_as (st' := [.int (i32 (((97 + (R 5 k.toNat - 26) / 26).toNat : Nat) : Int)), .ref b]) rfl rfl (by rw [Int.toNat_of_nonneg (by omega)]; try rfl) ?_
        refine x_callL (As := [_]) (ci := 1) 42 (((3 * rDep R k).toNat - 1) - 1) (((480 * rDep R k).toNat - 160) - 160) C vw_X5_29 iw_J4_append_cf468 sw_J4_append_cf468 (c_apC2 (ms := 160) (x := (97 + (R 5 k.toNat - 26) / 26).toNat) hk (by omega) ⟨(by (try simp only [List.length_append, List.length_cons, List.length_nil]); omega), (by (try simp only [List.length_append, List.length_cons, List.length_nil]); omega)⟩) dX5_appendTo_39 rfl rfl rfl rfl rfl (Or.inr (Or.inl ⟨rfl, (by assumption)⟩)) ⟨Nat.le_of_ble_eq_true rfl, Nat.le_of_ble_eq_true rfl⟩ (Nat.le_of_ble_eq_true rfl) ⟨by omega, by omega⟩ (fun v G' hq => ?_)
        obtain ⟨rfl, hG9⟩ := hq
        replace hG9 := hG9.symm
        subst hG9
        refine x_as rfl rfl rfl ?_
        refine x_pop 43 C dX5_appendTo_42 rfl rfl ?_
        refine x_aload_n 44 C dX5_appendTo_43 rfl rfl ?_
        refine x_bipush 46 C dX5_appendTo_44 rfl (by decide) ?_
        refine x_joinv 61 (fun vJ => vJ = if R 5 k.toNat < 26 then R 5 k.toNat else (R 5 k.toNat - 26) % 26) ?_ (fun hJ61 => ?_)
        · intro vJ hJ
          subst hJ
          refine x_iadd 62 C dX5_appendTo_61 rfl ?_
          refine x_i2c 63 C dX5_appendTo_62 rfl (by split <;> omega) ?_
          have hv2 : 0 ≤ (if R 5 k.toNat < 26 then R 5 k.toNat else (R 5 k.toNat - 26) % 26) ∧ (if R 5 k.toNat < 26 then R 5 k.toNat else (R 5 k.toNat - 26) % 26) ≤ 25 := by (split <;> omega)
          refine x_as (st' := [.int (i32 (((97 + (if R 5 k.toNat < 26 then R 5 k.toNat else (R 5 k.toNat - 26) % 26)).toNat : Nat) : Int)), .ref b]) rfl rfl (by rw [Int.toNat_of_nonneg (by omega)]; try rfl) ?_
          refine x_callL (As := [_]) (ci := 1) 66 ((((3 * rDep R k).toNat - 1) - 1) - 1) ((((480 * rDep R k).toNat - 160) - 160) - 160) C vw_X5_29 iw_J4_append_cf468 sw_J4_append_cf468 (c_apC2 (ms := 160) (x := (97 + (if R 5 k.toNat < 26 then R 5 k.toNat else (R 5 k.toNat - 26) % 26)).toNat) hk (by omega) ⟨(by (try simp only [List.length_append, List.length_cons, List.length_nil]); omega), (by (try simp only [List.length_append, List.length_cons, List.length_nil]); omega)⟩) dX5_appendTo_63 rfl rfl rfl rfl rfl (Or.inr (Or.inl ⟨rfl, (by assumption)⟩)) ⟨Nat.le_of_ble_eq_true rfl, Nat.le_of_ble_eq_true rfl⟩ (Nat.le_of_ble_eq_true rfl) ⟨by omega, by omega⟩ (fun v G' hq => ?_)
          obtain ⟨rfl, hG9⟩ := hq
          replace hG9 := hG9.symm
          subst hG9
          refine x_as rfl rfl rfl ?_
          refine x_pop 67 C dX5_appendTo_66 rfl rfl ?_
          refine x_aload_n 68 C dX5_appendTo_67 rfl rfl ?_
          refine x_getPv 71 801 C fr_X5_15 dX5_appendTo_68 rfl rfl rfl rfl (by assumption) (by first | assumption | rfl) ?_
          refine x_astore_nq 72 C dX5_appendTo_71 rfl rfl rfl ?_
          refine x_goto 2 C dX5_appendTo_72 (by decide) ?_
          have hinv : ys ++ sep ++ rkLb (R 5 k.toNat) ++ rkRs R i (R 4 k.toNat) = xs ++ rkHt R i := by (rw [← hr, hstp, List.append_assoc (ys ++ sep)]; unfold rkRs; exact (if c : R 4 k.toNat = -1 then (by rw [if_pos c, if_pos c]) else (by rw [if_neg c, if_neg c, if_neg (by omega)])))
          refine x_as (G' := sL G b (ys ++ sep ++ rkLb (R 5 k.toNat))) (by rcases hlb with ⟨q1, q2⟩ | ⟨q1, q2⟩ <;> first | (exfalso; omega) | (rw [q2, if_pos q1]) | (rw [q2, if_neg (show ¬ R 5 k.toNat < 26 by omega)]; exact congrArg (sL G b) (by simp))) rfl rfl (x_less ?_ (x_weak (by (try dsimp only); omega) (by (try dsimp only); omega) (ih (R 4 k.toNat, ys ++ sep ++ rkLb (R 5 k.toNat)) ⟨by (try dsimp only); omega, by (try dsimp only); omega, hinv⟩ (by (try dsimp only); omega)))); exact ⟨rfl, rfl, rfl, trivial⟩
        · skip
          refine x_iload_n 47 C dX5_appendTo_46 rfl rfl ?_
          refine x_if_lt 50 57 C dX5_appendTo_47 rfl (by decide) (by first | exact hRw _ _ | assumption | exact ⟨by omega, by omega⟩ | exact hw.1 _ _ | omega) (fun h47 => ?_) (fun h47 => ?_)
          · skip
            refine x_aload_n 58 C dX5_appendTo_57 rfl rfl ?_
            refine x_getIv 61 802 C fr_X5_19 dX5_appendTo_58 rfl rfl rfl rfl (by assumption) (by first | assumption | rfl) ?_
            exact hJ61 _ (by first | (exfalso; omega) | rw [if_pos (by omega)] | rw [if_neg (by omega)])
          · skip
            refine x_iload_n 51 C dX5_appendTo_50 rfl rfl ?_
            refine x_bipush 53 C dX5_appendTo_51 rfl (by decide) ?_
            refine x_irem 54 C dX5_appendTo_53 rfl (by omega) ?_
            refine x_goto 61 C dX5_appendTo_54 (by decide) ?_
            exact hJ61 _ (by first | (exfalso; omega) | rw [if_pos (by omega)] | rw [if_neg (by omega)])
