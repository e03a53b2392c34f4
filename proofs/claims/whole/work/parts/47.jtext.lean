/-! rows laid by program (wip/tools/gen_raw.py) -/
theorem up3 {f f' : FT} {a d z : Nat} {e1 e2 e3 e4 : Option va_E} (h : a ≠ d) (w : ∀ x, f' x = if x = a then e3 else if x = d then e4 else f x) : va_up (va_up f' a e1) d e2 z = if z = a then e1 else if z = d then e2 else f z := by
  rw [up2 h]
  by_cases hz : z = a
  · rw [if_pos hz, if_pos hz]
  · rw [if_neg hz, if_neg hz]
    by_cases hy : z = d
    · rw [if_pos hy, if_pos hy]
    · rw [if_neg hy, if_neg hy, w z, if_neg hz, if_neg hy]
theorem up4 {f f' : FT} {a d z : Nat} {e1 e2 e3 e4 : Option va_E} (h : a ≠ d) (w : ∀ x, f' x = if x = a then e3 else if x = d then e4 else f x) : va_up (va_up f' d e2) a e1 z = if z = a then e1 else if z = d then e2 else f z := by
  rw [up2 h.symm]
  by_cases hz : z = a
  · rw [if_pos hz, if_neg (fun k => h (hz.symm.trans k)), if_pos hz]
  · rw [if_neg hz, if_neg hz]
    by_cases hy : z = d
    · rw [if_pos hy, if_pos hy]
    · rw [if_neg hy, if_neg hy, w z, if_neg hz, if_neg hy]
theorem ys_J0212 : YS RJ0 212 := ⟨aw_i 646 (by decide +kernel) rfl, aw_i 460 (by decide +kernel) rfl, aw_i 459 (by decide +kernel) rfl, aw_i 109 (by decide +kernel) rfl⟩
theorem uw_J5_83 : UW RJ5 83 RJ4 yJ5_isLatin1_aae02 cJ5_isLatin1_aae02 1 (some .boolean) 0 := ⟨⟨aw_i 578 (by decide +kernel) rfl, aw_i 111 (by decide +kernel) rfl, aw_i 574 (by decide +kernel) rfl, aw_i 576 (by decide +kernel) rfl, aw_i 575 (by decide +kernel) rfl⟩, aw_i 577 (by decide +kernel) rfl, by decide +kernel, by decide +kernel, by decide +kernel⟩
theorem uw_J5_100 : UW RJ5 100 RJ4 yJ5_ensureCapacityInternal_d00df cJ5_ensureCapacityInternal_d00df 3 none 1 := ⟨⟨aw_i 557 (by decide +kernel) rfl, aw_i 111 (by decide +kernel) rfl, aw_i 554 (by decide +kernel) rfl, aw_i 1937 (by decide +kernel) rfl, aw_i 556 (by decide +kernel) rfl⟩, aw_x 0 rfl rfl, by decide +kernel, by decide +kernel, by decide +kernel⟩
theorem uw_J5_104 : UW RJ5 104 RJ4 yJ5_newCapacity_0f7a4 cJ5_newCapacity_0f7a4 6 (some .int) 1 := ⟨⟨aw_i 561 (by decide +kernel) rfl, aw_i 111 (by decide +kernel) rfl, aw_i 558 (by decide +kernel) rfl, aw_i 1938 (by decide +kernel) rfl, aw_i 560 (by decide +kernel) rfl⟩, aw_x 1 rfl rfl, by decide +kernel, by decide +kernel, by decide +kernel⟩
theorem uw_J5_208 : UW RJ5 208 RJ4 yJ5_putStringAt_47b60 cJ5_putStringAt_47b60 3 none 2 := ⟨⟨aw_i 617 (by decide +kernel) rfl, aw_i 111 (by decide +kernel) rfl, aw_i 614 (by decide +kernel) rfl, aw_i 1939 (by decide +kernel) rfl, aw_i 616 (by decide +kernel) rfl⟩, aw_x 2 rfl rfl, by decide +kernel, by decide +kernel, by decide +kernel⟩
theorem uw_J5_397 : UW RJ5 397 RJ4 yJ5_inflateIfNeededFor_a7421 cJ5_inflateIfNeededFor_a7421 2 none 1 := ⟨⟨aw_i 621 (by decide +kernel) rfl, aw_i 111 (by decide +kernel) rfl, aw_i 618 (by decide +kernel) rfl, aw_i 1940 (by decide +kernel) rfl, aw_i 620 (by decide +kernel) rfl⟩, aw_x 3 rfl rfl, by decide +kernel, by decide +kernel, by decide +kernel⟩
theorem uw_J0_552 : UW RJ0 552 RJ4 yJ5_getValue_6d5f1 cJ5_getValue_6d5f1 1 (some (.array .byte)) 0 := ⟨⟨aw_i 715 (by decide +kernel) rfl, aw_i 111 (by decide +kernel) rfl, aw_i 711 (by decide +kernel) rfl, aw_i 713 (by decide +kernel) rfl, aw_i 712 (by decide +kernel) rfl⟩, aw_i 714 (by decide +kernel) rfl, by decide +kernel, by decide +kernel, by decide +kernel⟩
theorem uw_J0_1047 : UW RJ0 1047 RJ4 yJ5_isLatin1_aae02 cJ5_isLatin1_aae02 1 (some .boolean) 0 := ⟨⟨aw_i 578 (by decide +kernel) rfl, aw_i 111 (by decide +kernel) rfl, aw_i 724 (by decide +kernel) rfl, aw_i 576 (by decide +kernel) rfl, aw_i 575 (by decide +kernel) rfl⟩, aw_i 577 (by decide +kernel) rfl, by decide +kernel, by decide +kernel, by decide +kernel⟩
theorem suw_J4_29 : SW RJ4 29 yJ5_append_cf1ce cJ5_append_cf1ce 3 (some (.object "java/lang/AbstractStringBuilder")) 1 := ⟨⟨aw_i 549 (by decide +kernel) rfl, aw_i 111 (by decide +kernel) rfl, aw_i 547 (by decide +kernel) rfl, aw_i 1935 (by decide +kernel) rfl, aw_i 548 (by decide +kernel) rfl⟩, aw_i 540 (by decide +kernel) rfl, by decide +kernel, by decide +kernel⟩
theorem suw_J4_50 : SW RJ4 50 yJ5_append_3fe6f cJ5_append_3fe6f 2 (some (.object "java/lang/AbstractStringBuilder")) 1 := ⟨⟨aw_i 658 (by decide +kernel) rfl, aw_i 111 (by decide +kernel) rfl, aw_i 656 (by decide +kernel) rfl, aw_i 1942 (by decide +kernel) rfl, aw_i 657 (by decide +kernel) rfl⟩, aw_i 540 (by decide +kernel) rfl, by decide +kernel, by decide +kernel⟩
theorem suw_J4_53 : SW RJ4 53 yJ5_append_c97b9 cJ5_append_c97b9 4 (some (.object "java/lang/AbstractStringBuilder")) 1 := ⟨⟨aw_i 679 (by decide +kernel) rfl, aw_i 111 (by decide +kernel) rfl, aw_i 677 (by decide +kernel) rfl, aw_i 1943 (by decide +kernel) rfl, aw_i 678 (by decide +kernel) rfl⟩, aw_i 540 (by decide +kernel) rfl, by decide +kernel, by decide +kernel⟩
/-- a builder's own cell; a text's -/
abbrev lB (d : Nat) (n : Int) : va_E := .inr (1, [.ref d, .int (i32 0), .int (i32 0), .int (i32 n)])
abbrev lS (d : Nat) (h1 h2 : Int32) : va_E := .inr (0, [.ref d, .int (i32 0), .int h1, .int h2])
def dgs (x : Nat) : List Nat := if x < 10 then [48 + x] else if x < 100 then [48 + x / 10, 48 + x % 10] else if x < 1000 then [48 + x / 100, 48 + x / 10 % 10, 48 + x % 10] else [48 + x / 1000, 48 + x / 100 % 10, 48 + x / 10 % 10, 48 + x % 10]
theorem dgs_l (x : Nat) : (x < 10 ∧ (dgs x).length = 1) ∨ (10 ≤ x ∧ x < 100 ∧ (dgs x).length = 2) ∨ (100 ≤ x ∧ x < 1000 ∧ (dgs x).length = 3) ∨ (1000 ≤ x ∧ (dgs x).length = 4) := by
  unfold dgs
  split
  · exact Or.inl ⟨by omega, rfl⟩
  · split
    · exact Or.inr (Or.inl ⟨by omega, by omega, rfl⟩)
    · split
      · exact Or.inr (Or.inr (Or.inl ⟨by omega, by omega, rfl⟩))
      · exact Or.inr (Or.inr (Or.inr ⟨by omega, rfl⟩))
theorem b_dig (c : Nat) : vp_nar .byte (i32 (c : Int)) = sb_b c := by
  rw [vp_nar_byte, ← i32_nI]
  rfl
theorem b_nar (c : Nat) : vp_nar .byte (sb_b c) = sb_b c := by
  rw [vp_nar_byte]
  unfold sb_b
  rw [Int8.toInt8_toInt32]
theorem b_i2b (c : Nat) : (i32 (c : Int)).toInt8.toInt32 = sb_b c := by
  rw [← i32_nI]
  rfl
theorem nwd_J4_18 : NWd RJ4 18 0 RJ0 4 [.null, .int 0, .int 0, .int 0] := ⟨TJ0, tyJ0, rfl, cw_0, tyJ0_ok, aw_i 702 (by decide +kernel) rfl, aw_i 703 (by decide +kernel) rfl, aw_i 113 (by decide +kernel) rfl, fun j hj => by rcases j with _ | _ | _ | _ | j <;> first | rfl | omega⟩
theorem suw_J4_343 : SW RJ4 343 yJ5_length_8abf5 cJ5_length_8abf5 1 (some .int) 0 := ⟨⟨aw_i 723 (by decide +kernel) rfl, aw_i 111 (by decide +kernel) rfl, aw_i 722 (by decide +kernel) rfl, aw_i 718 (by decide +kernel) rfl, aw_i 717 (by decide +kernel) rfl⟩, aw_i 540 (by decide +kernel) rfl, by decide +kernel, by decide +kernel⟩
theorem ow_J0_549 : OWd RJ0 549 RJ4 yJ5_length_8abf5 yJ4_length_8abf5 cJ4_length_8abf5 1 (some .int) 0 := ⟨⟨aw_i 721 (by decide +kernel) rfl, aw_i 112 (by decide +kernel) rfl, aw_i 716 (by decide +kernel) rfl, aw_i 718 (by decide +kernel) rfl, aw_i 720 (by decide +kernel) rfl, aw_i 717 (by decide +kernel) rfl⟩, ⟨cJ5_length_8abf5, 1, some .int, aw_i 723 (by decide +kernel) rfl⟩, aw_i 719 (by decide +kernel) rfl, by decide +kernel, by decide +kernel, by decide +kernel⟩
set_option maxHeartbeats 4000000 in
set_option maxRecDepth 100000 in
theorem j_J3_checkIndex_8e157r {E : EV} {l : Launch} {G : FT} {i n : Int} {r : Option Nat} (h : 0 ≤ i ∧ i < n ∧ n ≤ 2147483647) : MR E l yJ3_checkIndex_8e157 cJ3_checkIndex_8e157 3 (some .int) 0 0 0 0 [.int (i32 i), .int (i32 n), va_rf r] G (pF (some (.int (i32 i))) G) := by
  refine mr_of (own := RJ3) (L := [some (.int (i32 i)), some (.int (i32 n)), some (va_rf r)]) (by decide +kernel) rfl (by cases r <;> exact Nat.le_of_ble_eq_true rfl) (List.forall_mem_cons.mpr ⟨rfl, (List.forall_mem_cons.mpr ⟨rfl, (List.forall_mem_cons.mpr ⟨(by cases r <;> rfl), (fun _ h => absurd h List.not_mem_nil)⟩)⟩)⟩) rfl ?_
  intro p e s m args below meth c C hin
  obtain ⟨h0, h1, h2⟩ := h
  refine y_iload_n 1 C dJ3_checkIndex_8e157_0 rfl rfl ?_
  refine y_if_lt 4 9 C dJ3_checkIndex_8e157_1 rfl (by decide) (by first | assumption | omega | exact ⟨by omega, by omega⟩) (fun h1 => ?_) (fun h1 => ?_)
  · skip
    exact absurd h1 (by omega)
  · skip
    refine y_iload_n 5 C dJ3_checkIndex_8e157_4 rfl rfl ?_
    refine y_iload_n 6 C dJ3_checkIndex_8e157_5 rfl rfl ?_
    refine y_icmp_lt 9 16 C dJ3_checkIndex_8e157_6 rfl (by decide) (by first | assumption | omega | exact ⟨by omega, by omega⟩) (by first | assumption | omega | exact ⟨by omega, by omega⟩) (fun h6 => ?_) (fun h6 => ?_)
    · skip
      refine y_iload_n 17 C dJ3_checkIndex_8e157_16 rfl rfl ?_
      exact y_iret C dJ3_checkIndex_8e157_17 rfl ⟨rfl, rfl⟩
    · skip
      exact absurd h1 (by omega)
set_option maxHeartbeats 4000000 in
set_option maxRecDepth 100000 in
theorem j_J0_coder_7d493K {E : EV} {l : Launch} {G : FT} {i : Nat} (hi : i < 2) : MR E l yJ0_coder_7d493 cJ0_coder_7d493 1 (some .byte) 0 0 0 0 [.ref (kS E i)] G (pF (some (.int (i32 0))) G) := by
  refine mr_of (own := RJ0) (L := [some (.ref (kS E i))]) (by decide +kernel) rfl (Nat.le_of_ble_eq_true rfl) (List.forall_mem_cons.mpr ⟨rfl, (fun _ h => absurd h List.not_mem_nil)⟩) rfl ?_
  intro p e s m args below meth c C hin
  refine y_getsC 3 C (aw_i 613 (by decide +kernel) rfl) dJ0_coder_7d493_0 rfl ?_
  refine y_if_eq 6 13 C dJ0_coder_7d493_3 rfl (by decide) (by first | assumption | omega | exact ⟨by omega, by omega⟩) (fun h3 => ?_) (fun h3 => ?_)
  · skip
    exact absurd h3 (by decide)
  · skip
    refine y_aload_n 7 C dJ0_coder_7d493_6 rfl rfl ?_
    refine y_getKc 10 i hi C (aw_i 756 (by decide +kernel) rfl) dJ0_coder_7d493_7 rfl ?_
    refine y_goto 14 C dJ0_coder_7d493_10 (by decide) ?_
    exact y_iret C dJ0_coder_7d493_14 rfl ⟨rfl, rfl⟩
set_option maxHeartbeats 4000000 in
set_option maxRecDepth 100000 in
theorem j_J0_coder_7d493P {E : EV} {l : Launch} {G : FT} {a d : Nat} {h1 h2 : Int32} (hg : G a = some (lS d h1 h2)) : MR E l yJ0_coder_7d493 cJ0_coder_7d493 1 (some .byte) 0 0 0 0 [.ref a] G (pF (some (.int (i32 0))) G) := by
  refine mr_of (own := RJ0) (L := [some (.ref a)]) (by decide +kernel) rfl (Nat.le_of_ble_eq_true rfl) (List.forall_mem_cons.mpr ⟨rfl, (fun _ h => absurd h List.not_mem_nil)⟩) rfl ?_
  intro p e s m args below meth c C hin
  refine y_getsC 3 C (aw_i 613 (by decide +kernel) rfl) dJ0_coder_7d493_0 rfl ?_
  refine y_if_eq 6 13 C dJ0_coder_7d493_3 rfl (by decide) (by first | assumption | omega | exact ⟨by omega, by omega⟩) (fun h3 => ?_) (fun h3 => ?_)
  · skip
    exact absurd h3 (by decide)
  · skip
    refine y_aload_n 7 C dJ0_coder_7d493_6 rfl rfl ?_
    refine y_getf 10 C fr_J0_15 hg rfl dJ0_coder_7d493_7 rfl ?_
    refine y_goto 14 C dJ0_coder_7d493_10 (by decide) ?_
    exact y_iret C dJ0_coder_7d493_14 rfl ⟨rfl, rfl⟩
set_option maxHeartbeats 4000000 in
set_option maxRecDepth 100000 in
theorem j_J0_length_8abf5K {E : EV} {l : Launch} {G : FT} {i : Nat} (hi : i < 2) : MR E l yJ0_length_8abf5 cJ0_length_8abf5 1 (some .int) 1 20 0 0 [.ref (kS E i)] G (pF (some (.int (i32 ((kT i).length : Int)))) G) := by
  refine mr_of (own := RJ0) (L := [some (.ref (kS E i))]) (by decide +kernel) rfl (Nat.le_of_ble_eq_true rfl) (List.forall_mem_cons.mpr ⟨rfl, (fun _ h => absurd h List.not_mem_nil)⟩) rfl ?_
  intro p e s m args below meth c C hin
  refine y_aload_n 1 C dJ0_length_8abf5_0 rfl rfl ?_
  refine y_getK 4 i hi C (aw_i 755 (by decide +kernel) rfl) dJ0_length_8abf5_1 rfl ?_
  refine y_alenK 5 i hi C dJ0_length_8abf5_4 rfl ?_
  refine y_aload_n 6 C dJ0_length_8abf5_5 rfl rfl ?_
  refine y_callK (As := []) 9 i _ _ hi C vw_J0_335 iw_J0_coder_7d493 sw_J0_coder_7d493 (j_J0_coder_7d493K hi) dJ0_length_8abf5_6 rfl rfl rfl rfl ⟨Nat.le_of_ble_eq_true rfl, Nat.le_of_ble_eq_true rfl⟩ (Nat.le_of_ble_eq_true rfl) ⟨Nat.le_refl _, Nat.le_refl _⟩ (aw_i 609 (by decide +kernel) rfl) (fun v G' hq => ?_)
  obtain ⟨rfl, rfl⟩ := hq
  refine y_as rfl rfl rfl ?_
  refine y_ishr0 10 C dJ0_length_8abf5_9 rfl ?_
  exact y_iret C dJ0_length_8abf5_10 rfl ⟨rfl, rfl⟩
set_option maxHeartbeats 4000000 in
set_option maxRecDepth 100000 in
theorem j_J0_length_8abf5P {E : EV} {l : Launch} {G : FT} {a d N : Nat} {h1 h2 : Int32} {g : Nat → Int32} (hg : G a = some (lS d h1 h2)) (hd : G d = some (aB E N g)) : MR E l yJ0_length_8abf5 cJ0_length_8abf5 1 (some .int) 1 20 0 0 [.ref a] G (pF (some (.int (i32 (N : Int)))) G) := by
  refine mr_of (own := RJ0) (L := [some (.ref a)]) (by decide +kernel) rfl (Nat.le_of_ble_eq_true rfl) (List.forall_mem_cons.mpr ⟨rfl, (fun _ h => absurd h List.not_mem_nil)⟩) rfl ?_
  intro p e s m args below meth c C hin
  refine y_aload_n 1 C dJ0_length_8abf5_0 rfl rfl ?_
  refine y_getf 4 C fr_J0_9 hg rfl dJ0_length_8abf5_1 rfl ?_
  refine y_alen 5 2 C hd rfl dJ0_length_8abf5_4 rfl ?_
  refine y_aload_n 6 C dJ0_length_8abf5_5 rfl rfl ?_
  refine y_callV (As := []) 9 0 _ _ C vw_J0_335 iw_J0_coder_7d493 sw_J0_coder_7d493 (j_J0_coder_7d493P hg) dJ0_length_8abf5_6 rfl rfl rfl rfl rfl hg ⟨Nat.le_of_ble_eq_true rfl, Nat.le_of_ble_eq_true rfl⟩ (Nat.le_of_ble_eq_true rfl) ⟨Nat.le_refl _, Nat.le_refl _⟩ (fun v G' hq => ?_)
  obtain ⟨rfl, rfl⟩ := hq
  refine y_as rfl rfl rfl ?_
  refine y_ishr0 10 C dJ0_length_8abf5_9 rfl ?_
  exact y_iret C dJ0_length_8abf5_10 rfl ⟨rfl, rfl⟩
set_option maxHeartbeats 4000000 in
set_option maxRecDepth 100000 in
theorem j_J0_getBytes_840e7 {E : EV} {l : Launch} {G : FT} {i d dp N : Nat} {g : Nat → Int32} (hi : i < 2) (hd : G d = some (aB E N g)) (hz : N ≤ 5000 ∧ dp + (kT i).length ≤ N) : MR E l yJ0_getBytes_840e7 cJ0_getBytes_840e7 4 none 1 60 0 0 [.ref (kS E i), .ref d, .int (i32 (dp : Int)), .int (i32 0)] G (pF none (va_up G d (some (aB E N (va_cpy (fun j => sb_b ((kT i).getD j 0)) g 0 dp (kT i).length))))) := by
  refine mr_of (own := RJ0) (L := [some (.ref (kS E i)), some (.ref d), some (.int (i32 (dp : Int))), some (.int (i32 0))]) (by decide +kernel) rfl (Nat.le_of_ble_eq_true rfl) (List.forall_mem_cons.mpr ⟨rfl, (List.forall_mem_cons.mpr ⟨rfl, (List.forall_mem_cons.mpr ⟨rfl, (List.forall_mem_cons.mpr ⟨rfl, (fun _ h => absurd h List.not_mem_nil)⟩)⟩)⟩)⟩) rfl ?_
  intro p e s m args below meth c C hin
  refine y_aload_n 1 C dJ0_getBytes_840e7_0 rfl rfl ?_
  refine y_callK (As := []) 4 i _ _ hi C vw_J0_335 iw_J0_coder_7d493 sw_J0_coder_7d493 (j_J0_coder_7d493K hi) dJ0_getBytes_840e7_1 rfl rfl rfl rfl ⟨Nat.le_of_ble_eq_true rfl, Nat.le_of_ble_eq_true rfl⟩ (Nat.le_of_ble_eq_true rfl) ⟨Nat.le_refl _, Nat.le_refl _⟩ (aw_i 609 (by decide +kernel) rfl) (fun v G' hq => ?_)
  obtain ⟨rfl, rfl⟩ := hq
  refine y_as rfl rfl rfl ?_
  refine y_iload_n 5 C dJ0_getBytes_840e7_4 rfl rfl ?_
  refine y_icmp_ne 8 28 C dJ0_getBytes_840e7_5 rfl (by decide) (by first | assumption | omega | exact ⟨by omega, by omega⟩) (by first | assumption | omega | exact ⟨by omega, by omega⟩) (fun h5 => ?_) (fun h5 => ?_)
  · skip
    exact absurd rfl h5
  · skip
    refine y_aload_n 9 C dJ0_getBytes_840e7_8 rfl rfl ?_
    refine y_getK 12 i hi C (aw_i 755 (by decide +kernel) rfl) dJ0_getBytes_840e7_9 rfl ?_
    refine y_iconst 13 C dJ0_getBytes_840e7_12 rfl ?_
    refine y_aload_n 14 C dJ0_getBytes_840e7_13 rfl rfl ?_
    refine y_iload_n 15 C dJ0_getBytes_840e7_14 rfl rfl ?_
    refine y_iload_n 16 C dJ0_getBytes_840e7_15 rfl rfl ?_
    refine y_ishl0 17 C dJ0_getBytes_840e7_16 rfl ?_
    refine y_aload_n 18 C dJ0_getBytes_840e7_17 rfl rfl ?_
    refine y_getK 21 i hi C (aw_i 755 (by decide +kernel) rfl) dJ0_getBytes_840e7_18 rfl ?_
    refine y_alenK 22 i hi C dJ0_getBytes_840e7_21 rfl ?_
    refine y_copyK 25 i hi C ys_J0212 hd rfl hz ⟨Nat.le_of_ble_eq_true rfl, Nat.le_of_ble_eq_true rfl⟩ dJ0_getBytes_840e7_22 rfl ?_
    refine y_goto 43 C dJ0_getBytes_840e7_25 (by decide) ?_
    exact y_ret C dJ0_getBytes_840e7_43 ⟨rfl, rfl⟩
set_option maxHeartbeats 4000000 in
set_option maxRecDepth 100000 in
theorem j_J5_inflateIfNeededFor_a7421 {E : EV} {l : Launch} {G : FT} {i b d : Nat} {n : Int} (hi : i < 2) (hg : G b = some (lB d n)) : MR E l yJ5_inflateIfNeededFor_a7421 cJ5_inflateIfNeededFor_a7421 2 none 1 20 0 0 [.ref b, .ref (kS E i)] G (pF none G) := by
  refine mr_of (own := RJ5) (L := [some (.ref b), some (.ref (kS E i))]) (by decide +kernel) rfl (Nat.le_of_ble_eq_true rfl) (List.forall_mem_cons.mpr ⟨rfl, (List.forall_mem_cons.mpr ⟨rfl, (fun _ h => absurd h List.not_mem_nil)⟩)⟩) rfl ?_
  intro p e s m args below meth c C hin
  refine y_getsC 3 C (aw_i 519 (by decide +kernel) rfl) dJ5_inflateIfNeededFor_a7421_0 rfl ?_
  refine y_if_eq 6 21 C dJ5_inflateIfNeededFor_a7421_3 rfl (by decide) (by first | assumption | omega | exact ⟨by omega, by omega⟩) (fun h3 => ?_) (fun h3 => ?_)
  · skip
    exact absurd h3 (by decide)
  · skip
    refine y_aload_n 7 C dJ5_inflateIfNeededFor_a7421_6 rfl rfl ?_
    refine y_getf 10 C fr_J5_22 hg rfl dJ5_inflateIfNeededFor_a7421_7 rfl ?_
    refine y_aload_n 11 C dJ5_inflateIfNeededFor_a7421_10 rfl rfl ?_
    refine y_callK (As := []) 14 i _ _ hi C vw_J5_40 iw_J0_coder_7d493 sw_J0_coder_7d493 (j_J0_coder_7d493K hi) dJ5_inflateIfNeededFor_a7421_11 rfl rfl rfl rfl ⟨Nat.le_of_ble_eq_true rfl, Nat.le_of_ble_eq_true rfl⟩ (Nat.le_of_ble_eq_true rfl) ⟨Nat.le_refl _, Nat.le_refl _⟩ (aw_i 622 (by decide +kernel) rfl) (fun v G' hq => ?_)
    obtain ⟨rfl, rfl⟩ := hq
    refine y_as rfl rfl rfl ?_
    refine y_icmp_eq 17 21 C dJ5_inflateIfNeededFor_a7421_14 rfl (by decide) (by first | assumption | omega | exact ⟨by omega, by omega⟩) (by first | assumption | omega | exact ⟨by omega, by omega⟩) (fun h14 => ?_) (fun h14 => ?_)
    · skip
      exact y_ret C dJ5_inflateIfNeededFor_a7421_21 ⟨rfl, rfl⟩
    · skip
      exact absurd rfl h14
set_option maxHeartbeats 4000000 in
set_option maxRecDepth 100000 in
theorem j_J5_putStringAt_47b60 {E : EV} {l : Launch} {G : FT} {i b d dp N : Nat} {n xd : Int} {g : Nat → Int32} (hi : i < 2) (hg : G b = some (lB d n)) (hd : G d = some (aB E N g)) (hxd : xd = (dp : Int)) (hz : N ≤ 5000 ∧ dp + (kT i).length ≤ N) : MR E l yJ5_putStringAt_47b60 cJ5_putStringAt_47b60 3 none 2 83 0 0 [.ref b, .int (i32 xd), .ref (kS E i)] G (pF none (va_up G d (some (aB E N (va_cpy (fun j => sb_b ((kT i).getD j 0)) g 0 dp (kT i).length))))) := by
  refine mr_of (own := RJ5) (L := [some (.ref b), some (.int (i32 xd)), some (.ref (kS E i))]) (by decide +kernel) rfl (Nat.le_of_ble_eq_true rfl) (List.forall_mem_cons.mpr ⟨rfl, (List.forall_mem_cons.mpr ⟨rfl, (List.forall_mem_cons.mpr ⟨rfl, (fun _ h => absurd h List.not_mem_nil)⟩)⟩)⟩) rfl ?_
  intro p e s m args below meth c C hin
  subst hxd
  refine y_aload_n 1 C dJ5_putStringAt_47b60_0 rfl rfl ?_
  refine y_aload_n 2 C dJ5_putStringAt_47b60_1 rfl rfl ?_
  refine y_callU (As := [_]) 5 1 _ _ C uw_J5_397 (j_J5_inflateIfNeededFor_a7421 hi hg) dJ5_putStringAt_47b60_2 rfl rfl rfl rfl hg ⟨Nat.le_of_ble_eq_true rfl, Nat.le_of_ble_eq_true rfl⟩ (Nat.le_of_ble_eq_true rfl) ⟨Nat.le_refl _, Nat.le_refl _⟩ (fun v G' hq => ?_)
  obtain ⟨rfl, rfl⟩ := hq
  refine y_as rfl rfl rfl ?_
  refine y_aload_n 6 C dJ5_putStringAt_47b60_5 rfl rfl ?_
  refine y_aload_n 7 C dJ5_putStringAt_47b60_6 rfl rfl ?_
  refine y_getf 10 C fr_J5_15 hg rfl dJ5_putStringAt_47b60_7 rfl ?_
  refine y_iload_n 11 C dJ5_putStringAt_47b60_10 rfl rfl ?_
  refine y_aload_n 12 C dJ5_putStringAt_47b60_11 rfl rfl ?_
  refine y_getf 15 C fr_J5_22 hg rfl dJ5_putStringAt_47b60_12 rfl ?_
  refine y_callK (As := [_, _, _]) 18 i _ _ hi C vw_J5_399 iw_J0_getBytes_840e7 sw_J0_getBytes_840e7 (j_J0_getBytes_840e7 hi hd hz) dJ5_putStringAt_47b60_15 rfl rfl rfl rfl ⟨Nat.le_of_ble_eq_true rfl, Nat.le_of_ble_eq_true rfl⟩ (Nat.le_of_ble_eq_true rfl) ⟨Nat.le_refl _, Nat.le_refl _⟩ (aw_i 642 (by decide +kernel) rfl) (fun v G' hq => ?_)
  obtain ⟨rfl, rfl⟩ := hq
  refine y_as rfl rfl rfl ?_
  exact y_ret C dJ5_putStringAt_47b60_18 ⟨rfl, rfl⟩
set_option maxHeartbeats 4000000 in
set_option maxRecDepth 100000 in
theorem j_J5_newCapacity_0f7a4 {E : EV} {l : Launch} {G : FT} {b d N : Nat} {n q : Int} {g : Nat → Int32} (hg : G b = some (lB d n)) (hd : G d = some (aB E N g)) (h : (N : Int) < q ∧ q ≤ 1200) : MR E l yJ5_newCapacity_0f7a4 cJ5_newCapacity_0f7a4 6 (some .int) 2 44 0 0 [.ref b, .int (i32 q)] G (pF (some (.int (i32 ((N : Int) + max (q - N) ((N : Int) + 2))))) G) := by
  refine mr_of (own := RJ5) (L := [some (.ref b), some (.int (i32 q)), none, none, none, none]) (by decide +kernel) rfl (Nat.le_of_ble_eq_true rfl) (List.forall_mem_cons.mpr ⟨rfl, (List.forall_mem_cons.mpr ⟨rfl, (fun _ h => absurd h List.not_mem_nil)⟩)⟩) rfl ?_
  intro p e s m args below meth c C hin
  obtain ⟨q1, q2⟩ := h
  refine y_aload_n 1 C dJ5_newCapacity_0f7a4_0 rfl rfl ?_
  refine y_getf 4 C fr_J5_15 hg rfl dJ5_newCapacity_0f7a4_1 rfl ?_
  refine y_alen 5 2 C hd rfl dJ5_newCapacity_0f7a4_4 rfl ?_
  refine y_istore_n 6 C dJ5_newCapacity_0f7a4_5 rfl rfl rfl ?_
  refine y_iload_n 7 C dJ5_newCapacity_0f7a4_6 rfl rfl ?_
  refine y_aload_n 8 C dJ5_newCapacity_0f7a4_7 rfl rfl ?_
  refine y_getf 11 C fr_J5_22 hg rfl dJ5_newCapacity_0f7a4_8 rfl ?_
  refine y_ishl0 12 C dJ5_newCapacity_0f7a4_11 rfl ?_
  refine y_istore_n 13 C dJ5_newCapacity_0f7a4_12 rfl rfl rfl ?_
  refine y_iload_n 14 C dJ5_newCapacity_0f7a4_13 rfl rfl ?_
  refine y_iload_n 15 C dJ5_newCapacity_0f7a4_14 rfl rfl ?_
  refine y_isub 16 C dJ5_newCapacity_0f7a4_15 rfl ?_
  refine y_istore 18 C dJ5_newCapacity_0f7a4_16 rfl rfl rfl ?_
  refine y_iload_n 19 C dJ5_newCapacity_0f7a4_18 rfl rfl ?_
  refine y_iload 21 C dJ5_newCapacity_0f7a4_19 rfl rfl ?_
  refine y_iload_n 22 C dJ5_newCapacity_0f7a4_21 rfl rfl ?_
  refine y_iconst 23 C dJ5_newCapacity_0f7a4_22 rfl ?_
  refine y_aload_n 24 C dJ5_newCapacity_0f7a4_23 rfl rfl ?_
  refine y_getf 27 C fr_J5_22 hg rfl dJ5_newCapacity_0f7a4_24 rfl ?_
  refine y_ishl0 28 C dJ5_newCapacity_0f7a4_27 rfl ?_
  refine y_iadd 29 C dJ5_newCapacity_0f7a4_28 rfl ?_
  refine y_callS (As := [_, _, _]) 32 _ _ C vw_J5_114 tw_J8_newLength_cabcc (j_J8_newLength_cabcc (x := (N : Int)) (y := q - N) (z := (N : Int) + 2) ⟨by omega, by omega, by omega, by omega, by omega, by omega⟩) dJ5_newCapacity_0f7a4_29 rfl rfl rfl ⟨Nat.le_of_ble_eq_true rfl, Nat.le_of_ble_eq_true rfl⟩ (Nat.le_of_ble_eq_true rfl) ⟨Nat.le_refl _, Nat.le_refl _⟩ (fun v G' hq => ?_)
  obtain ⟨rfl, rfl⟩ := hq
  refine y_as rfl rfl rfl ?_
  refine y_istore 34 C dJ5_newCapacity_0f7a4_32 rfl rfl rfl ?_
  refine y_iload 36 C dJ5_newCapacity_0f7a4_34 rfl rfl ?_
  refine y_ldc (v := 2147483647) 38 C (aw_i 563 (by decide +kernel) rfl) dJ5_newCapacity_0f7a4_36 rfl ?_
  refine y_icmp_ne 41 51 C dJ5_newCapacity_0f7a4_38 rfl (by decide) (by first | assumption | omega | exact ⟨by omega, by omega⟩) (by first | assumption | omega | exact ⟨by omega, by omega⟩) (fun h38 => ?_) (fun h38 => ?_)
  · skip
    refine y_iload 53 C dJ5_newCapacity_0f7a4_51 rfl rfl ?_
    refine y_aload_n 54 C dJ5_newCapacity_0f7a4_53 rfl rfl ?_
    refine y_getf 57 C fr_J5_22 hg rfl dJ5_newCapacity_0f7a4_54 rfl ?_
    refine y_ishr0 58 C dJ5_newCapacity_0f7a4_57 rfl ?_
    exact y_iret C dJ5_newCapacity_0f7a4_58 rfl ⟨rfl, rfl⟩
  · skip
    exact absurd h38 (by omega)
set_option maxHeartbeats 4000000 in
set_option maxRecDepth 100000 in
theorem j_J7_copyOf_9075b {E : EV} {l : Launch} {G : FT} {d N k ms : Nat} {g : Nat → Int32} (hd : G d = some (aB E N g)) (hk : N < k ∧ k ≤ 5000 ∧ k ≤ ms) (hf : sb_Fit g) : MR E l yJ7_copyOf_9075b cJ7_copyOf_9075b 3 (some (.array .byte)) 1 60 1 ms [.ref d, .int (i32 (k : Int))] G (fun v G' => ∃ (q : Nat) (g' : Nat → Int32), G q = none ∧ v = some (.ref q) ∧ (∀ x, G' x = if x = q then some (aB E k g') else G x) ∧ (∀ j, j < N → g' j = g j) ∧ sb_Fit g') := by
  refine mr_of (own := RJ7) (L := [some (.ref d), some (.int (i32 (k : Int))), none]) (by decide +kernel) rfl (Nat.le_of_ble_eq_true rfl) (List.forall_mem_cons.mpr ⟨rfl, (List.forall_mem_cons.mpr ⟨rfl, (fun _ h => absurd h List.not_mem_nil)⟩)⟩) rfl ?_
  intro p e s m args below meth c C hin
  obtain ⟨k1, k2, k3⟩ := hk
  refine y_iload_n 1 C dJ7_copyOf_9075b_0 rfl rfl ?_
  refine y_aload_n 2 C dJ7_copyOf_9075b_1 rfl rfl ?_
  refine y_alen 3 2 C hd rfl dJ7_copyOf_9075b_2 rfl ?_
  refine y_icmp_ne 6 14 C dJ7_copyOf_9075b_3 rfl (by decide) (by first | assumption | omega | exact ⟨by omega, by omega⟩) (by first | assumption | omega | exact ⟨by omega, by omega⟩) (fun h3 => ?_) (fun h3 => ?_)
  · skip
    refine y_iload_n 15 C dJ7_copyOf_9075b_14 rfl rfl ?_
    refine y_newB (kc0 := 0) (ks0 := 0) 17 C (aw_i 316 (by decide +kernel) rfl) (by omega) dJ7_copyOf_9075b_15 rfl ⟨by omega, by omega⟩ (fun q hq => ?_)
    have hdq : d ≠ q := fun z => by rw [z, hq] at hd; cases hd
    have hd1 := (up_n (e := some (aB E k (fun _ => 0))) hdq).trans hd
    refine y_astore_n 18 C dJ7_copyOf_9075b_17 rfl rfl rfl ?_
    refine y_aload_n 19 C dJ7_copyOf_9075b_18 rfl rfl ?_
    refine y_iconst 20 C dJ7_copyOf_9075b_19 rfl ?_
    refine y_aload_n 21 C dJ7_copyOf_9075b_20 rfl rfl ?_
    refine y_iconst 22 C dJ7_copyOf_9075b_21 rfl ?_
    refine y_aload_n 23 C dJ7_copyOf_9075b_22 rfl rfl ?_
    refine y_alen 24 2 C hd1 rfl dJ7_copyOf_9075b_23 rfl ?_
    refine y_iload_n 25 C dJ7_copyOf_9075b_24 rfl rfl ?_
    refine y_mmin (x := (N : Int)) (y := (k : Int)) 28 C mw_J7_304 ⟨Nat.le_of_ble_eq_true rfl, Nat.le_of_ble_eq_true rfl⟩ ⟨by omega, by omega⟩ ⟨by omega, by omega⟩ dJ7_copyOf_9075b_25 rfl ?_
    refine y_copyB (sp := 0) (dp := 0) (k0 := N) 31 C ys_J7150 hd1 up_s ⟨rfl, rfl, by show min (N : Int) (k : Int) = _; omega⟩ ⟨by omega, by omega, by omega, by omega⟩ (fun i hi => hf _) ⟨Nat.le_of_ble_eq_true rfl, Nat.le_of_ble_eq_true rfl⟩ dJ7_copyOf_9075b_28 rfl rfl ?_
    refine y_aload_n 32 C dJ7_copyOf_9075b_31 rfl rfl ?_
    exact y_aret (r := some _) C dJ7_copyOf_9075b_32 rfl ⟨q, va_cpy g (fun _ => 0) 0 0 N, hq, rfl, fun x => by unfold va_up; split <;> rfl, fun j hj => by unfold va_cpy; rw [if_pos ⟨by omega, by omega⟩, Nat.zero_add, Nat.sub_zero], sb_fitC hf sb_fit0⟩
  · skip
    exact absurd h3 (by omega)
set_option maxHeartbeats 4000000 in
set_option maxRecDepth 100000 in
theorem j_J5_ensureCapacityInternal_d00df {E : EV} {l : Launch} {G : FT} {b d N q ms : Nat} {n xq : Int} {g : Nat → Int32} (hg : G b = some (lB d n)) (hd : G d = some (aB E N g)) (hxq : xq = (q : Int)) (hq1 : N ≤ 5000 ∧ q ≤ 1000 ∧ 2 * q + 2 ≤ ms) (hf : sb_Fit g) : MR E l yJ5_ensureCapacityInternal_d00df cJ5_ensureCapacityInternal_d00df 3 none 3 82 1 ms [.ref b, .int (i32 xq)] G (fun v G' => v = none ∧ ∃ (d' N' : Nat) (g' : Nat → Int32), (d' = d ∨ (G d' = none ∧ d' ≠ b)) ∧ (∀ zz, G' zz = if zz = b then some (lB d' n) else if zz = d' then some (aB E N' g') else G zz) ∧ q ≤ N' ∧ N' ≤ 5000 ∧ sb_Fit g' ∧ ∀ j, j < N → g' j = g j) := by
  refine mr_of (own := RJ5) (L := [some (.ref b), some (.int (i32 xq)), none]) (by decide +kernel) rfl (Nat.le_of_ble_eq_true rfl) (List.forall_mem_cons.mpr ⟨rfl, (List.forall_mem_cons.mpr ⟨rfl, (fun _ h => absurd h List.not_mem_nil)⟩)⟩) rfl ?_
  intro p e s m args below meth c C hin
  subst hxq
  obtain ⟨q1, q2, q3⟩ := hq1
  have hbd : b ≠ d := fun z => by rw [z, hd] at hg; cases hg
  refine y_aload_n 1 C dJ5_ensureCapacityInternal_d00df_0 rfl rfl ?_
  refine y_getf 4 C fr_J5_15 hg rfl dJ5_ensureCapacityInternal_d00df_1 rfl ?_
  refine y_alen 5 2 C hd rfl dJ5_ensureCapacityInternal_d00df_4 rfl ?_
  refine y_aload_n 6 C dJ5_ensureCapacityInternal_d00df_5 rfl rfl ?_
  refine y_getf 9 C fr_J5_22 hg rfl dJ5_ensureCapacityInternal_d00df_6 rfl ?_
  refine y_ishr0 10 C dJ5_ensureCapacityInternal_d00df_9 rfl ?_
  refine y_istore_n 11 C dJ5_ensureCapacityInternal_d00df_10 rfl rfl rfl ?_
  refine y_iload_n 12 C dJ5_ensureCapacityInternal_d00df_11 rfl rfl ?_
  refine y_iload_n 13 C dJ5_ensureCapacityInternal_d00df_12 rfl rfl ?_
  refine y_isub 14 C dJ5_ensureCapacityInternal_d00df_13 rfl ?_
  refine y_if_le 17 38 C dJ5_ensureCapacityInternal_d00df_14 rfl (by decide) (by first | assumption | omega | exact ⟨by omega, by omega⟩) (fun h14 => ?_) (fun h14 => ?_)
  · skip
    exact y_ret C dJ5_ensureCapacityInternal_d00df_38 (by first | exact ⟨rfl, d, N, g, Or.inl rfl, fun x => by (exact (if hx : x = b then (by simp [hx, hg]) else (by (exact (if hy : x = d then (by (rw [hy]; simp [hbd.symm, hd])) else (by simp [hx, hy])))))), by omega, by omega, hf, fun j hj => rfl⟩ | exact ⟨rfl, q0, N + max (q - N) (N + 2), g1, Or.inr ⟨r1, hbq.symm⟩, fun x => up1.trans (by rw [r3]), by omega, by omega, r5, r4⟩)
  · skip
    refine y_aload_n 18 C dJ5_ensureCapacityInternal_d00df_17 rfl rfl ?_
    refine y_aload_n 19 C dJ5_ensureCapacityInternal_d00df_18 rfl rfl ?_
    refine y_getf 22 C fr_J5_15 hg rfl dJ5_ensureCapacityInternal_d00df_19 rfl ?_
    refine y_aload_n 23 C dJ5_ensureCapacityInternal_d00df_22 rfl rfl ?_
    refine y_iload_n 24 C dJ5_ensureCapacityInternal_d00df_23 rfl rfl ?_
    refine y_callU (As := [_]) 27 1 _ _ C uw_J5_104 (j_J5_newCapacity_0f7a4 hg hd ⟨by omega, by omega⟩) dJ5_ensureCapacityInternal_d00df_24 rfl rfl rfl rfl hg ⟨Nat.le_of_ble_eq_true rfl, Nat.le_of_ble_eq_true rfl⟩ (Nat.le_of_ble_eq_true rfl) ⟨Nat.le_refl _, Nat.le_refl _⟩ (fun v G' hq => ?_)
    obtain ⟨rfl, rfl⟩ := hq
    refine y_as rfl rfl (show (Value.int (i32 ((N + max (q - N) (N + 2) : Nat) : Int))) :: [.ref d, .ref b] = _ from congrArg (fun z => Value.int (i32 z) :: [.ref d, .ref b]) (by omega)) ?_
    refine y_aload_n 28 C dJ5_ensureCapacityInternal_d00df_27 rfl rfl ?_
    refine y_getf 31 C fr_J5_22 hg rfl dJ5_ensureCapacityInternal_d00df_28 rfl ?_
    refine y_ishl0 32 C dJ5_ensureCapacityInternal_d00df_31 rfl ?_
    refine y_callS (As := [_, _]) 35 0 0 C vw_J5_108 tw_J7_copyOf_9075b (j_J7_copyOf_9075b (ms := ms) (k := N + max (q - N) (N + 2)) hd ⟨by omega, by omega, by omega⟩ hf) dJ5_ensureCapacityInternal_d00df_32 rfl rfl rfl ⟨Nat.le_of_ble_eq_true rfl, Nat.le_of_ble_eq_true rfl⟩ (Nat.le_of_ble_eq_true rfl) ⟨by omega, by omega⟩ (fun v G' hq => ?_)
    obtain ⟨q0, g1, r1, rfl, r3, r4, r5⟩ := hq
    have hbq : b ≠ q0 := fun z => by rw [z, r1] at hg; cases hg
    have hGb : G' b = some (lB d n) := (r3 b).trans ((if_neg hbq).trans hg)
    refine y_as rfl rfl rfl ?_
    refine y_putf (G' := va_up G' b (some (lB q0 n))) 38 2 C fw_J5_15 hGb (Nat.le_of_ble_eq_true rfl) (fits_ref (v := some _)) dJ5_ensureCapacityInternal_d00df_35 rfl rfl ?_
    exact y_ret C dJ5_ensureCapacityInternal_d00df_38 (by first | exact ⟨rfl, d, N, g, Or.inl rfl, fun x => by (exact (if hx : x = b then (by simp [hx, hg]) else (by (exact (if hy : x = d then (by (rw [hy]; simp [hbd.symm, hd])) else (by simp [hx, hy])))))), by omega, by omega, hf, fun j hj => rfl⟩ | exact ⟨rfl, q0, N + max (q - N) (N + 2), g1, Or.inr ⟨r1, hbq.symm⟩, fun x => up1.trans (by rw [r3]), by omega, by omega, r5, r4⟩)
set_option maxHeartbeats 4000000 in
set_option maxRecDepth 100000 in
theorem j_J5_isLatin1_aae02 {E : EV} {l : Launch} {G : FT} {b d : Nat} {n : Int} (hg : G b = some (lB d n)) : MR E l yJ5_isLatin1_aae02 cJ5_isLatin1_aae02 1 (some .boolean) 0 0 0 0 [.ref b] G (pF (some (.int (i32 1))) G) := by
  refine mr_of (own := RJ5) (L := [some (.ref b)]) (by decide +kernel) rfl (Nat.le_of_ble_eq_true rfl) (List.forall_mem_cons.mpr ⟨rfl, (fun _ h => absurd h List.not_mem_nil)⟩) rfl ?_
  intro p e s m args below meth c C hin
  refine y_getsC 3 C (aw_i 519 (by decide +kernel) rfl) dJ5_isLatin1_aae02_0 rfl ?_
  refine y_if_eq 6 17 C dJ5_isLatin1_aae02_3 rfl (by decide) (by first | assumption | omega | exact ⟨by omega, by omega⟩) (fun h3 => ?_) (fun h3 => ?_)
  · skip
    exact absurd h3 (by decide)
  · skip
    refine y_aload_n 7 C dJ5_isLatin1_aae02_6 rfl rfl ?_
    refine y_getf 10 C fr_J5_22 hg rfl dJ5_isLatin1_aae02_7 rfl ?_
    refine y_if_ne 13 17 C dJ5_isLatin1_aae02_10 rfl (by decide) (by first | assumption | omega | exact ⟨by omega, by omega⟩) (fun h10 => ?_) (fun h10 => ?_)
    · skip
      exact absurd rfl h10
    · skip
      refine y_iconst 14 C dJ5_isLatin1_aae02_13 rfl ?_
      refine y_goto 18 C dJ5_isLatin1_aae02_14 (by decide) ?_
      exact y_iret C dJ5_isLatin1_aae02_18 rfl ⟨rfl, rfl⟩
set_option maxHeartbeats 4000000 in
set_option maxRecDepth 100000 in
theorem j_J1_canEncode_fc78d {E : EV} {l : Launch} {G : FT} {x : Int} (h : 0 ≤ x ∧ x < 128) : MR E l yJ1_canEncode_fc78d cJ1_canEncode_fc78d 1 (some .boolean) 0 0 0 0 [.int (i32 x)] G (pF (some (.int (i32 1))) G) := by
  refine mr_of (own := RJ1) (L := [some (.int (i32 x))]) (by decide +kernel) rfl (Nat.le_of_ble_eq_true rfl) (List.forall_mem_cons.mpr ⟨rfl, (fun _ h => absurd h List.not_mem_nil)⟩) rfl ?_
  intro p e s m args below meth c C hin
  obtain ⟨h0, h1⟩ := h
  refine y_iload_n 1 C dJ1_canEncode_fc78d_0 rfl rfl ?_
  refine y_sipush 4 C dJ1_canEncode_fc78d_1 rfl (by decide) ?_
  refine y_icmp_gt 7 11 C dJ1_canEncode_fc78d_4 rfl (by decide) (by first | assumption | omega | exact ⟨by omega, by omega⟩) (by first | assumption | omega | exact ⟨by omega, by omega⟩) (fun h4 => ?_) (fun h4 => ?_)
  · skip
    exact absurd h4 (by omega)
  · skip
    refine y_iconst 8 C dJ1_canEncode_fc78d_7 rfl ?_
    refine y_goto 12 C dJ1_canEncode_fc78d_8 (by decide) ?_
    exact y_iret C dJ1_canEncode_fc78d_12 rfl ⟨rfl, rfl⟩
set_option maxHeartbeats 4000000 in
set_option maxRecDepth 100000 in
theorem j_J5_append_3fe6f {E : EV} {l : Launch} {G : FT} {b d N n x ms : Nat} {g : Nat → Int32} (hg : G b = some (lB d (n : Int))) (hd : G d = some (aB E N g)) (hx : x < 128) (hz : n ≤ N ∧ N ≤ 5000 ∧ n + 1 ≤ 1000 ∧ 2 * (n + 1) + 2 ≤ ms) (hf : sb_Fit g) : MR E l yJ5_append_3fe6f cJ5_append_3fe6f 2 (some (.object "java/lang/AbstractStringBuilder")) 4 104 1 ms [.ref b, .int (i32 (x : Int))] G (fun v G' => v = some (.ref b) ∧ ∃ (d' N' : Nat) (g' : Nat → Int32), (d' = d ∨ (G d' = none ∧ d' ≠ b)) ∧ (∀ zz, G' zz = if zz = b then some (lB d' ((n : Int) + 1)) else if zz = d' then some (aB E N' g') else G zz) ∧ n + 1 ≤ N' ∧ N' ≤ 5000 ∧ sb_Fit g' ∧ (∀ j, j < n → g' j = g j) ∧ g' n = sb_b x) := by
  refine mr_of (own := RJ5) (L := [some (.ref b), some (.int (i32 (x : Int)))]) (by decide +kernel) rfl (Nat.le_of_ble_eq_true rfl) (List.forall_mem_cons.mpr ⟨rfl, (List.forall_mem_cons.mpr ⟨rfl, (fun _ h => absurd h List.not_mem_nil)⟩)⟩) rfl ?_
  intro p e s m args below meth c C hin
  obtain ⟨z1, z2, z3, z4⟩ := hz
  refine y_aload_n 1 C dJ5_append_3fe6f_0 rfl rfl ?_
  refine y_aload_n 2 C dJ5_append_3fe6f_1 rfl rfl ?_
  refine y_getf 5 C fr_J5_79 hg rfl dJ5_append_3fe6f_2 rfl ?_
  refine y_iconst 6 C dJ5_append_3fe6f_5 rfl ?_
  refine y_iadd 7 C dJ5_append_3fe6f_6 rfl ?_
  refine y_callU (As := [_]) 10 1 0 0 C uw_J5_100 (j_J5_ensureCapacityInternal_d00df (ms := ms) (q := n + 1) hg hd (by omega) ⟨z2, z3, z4⟩ hf) dJ5_append_3fe6f_7 rfl rfl rfl rfl hg ⟨Nat.le_of_ble_eq_true rfl, Nat.le_of_ble_eq_true rfl⟩ (Nat.le_of_ble_eq_true rfl) ⟨by omega, by omega⟩ (fun v G' hq => ?_)
  obtain ⟨rfl, d1, N1, g1, w1, w2, w3, w4, w5, w6⟩ := hq
  have hbd1 : b ≠ d1 := w1.elim (fun h z => by rw [z, h, hd] at hg; cases hg) (fun h => h.2.symm)
  have hGb : G' b = some (lB d1 (n : Int)) := (w2 b).trans (if_pos rfl)
  have hGd : G' d1 = some (aB E N1 g1) := (w2 d1).trans (by rw [if_neg hbd1.symm, if_pos rfl])
  refine y_as rfl rfl rfl ?_
  refine y_aload_n 11 C dJ5_append_3fe6f_10 rfl rfl ?_
  refine y_callU (As := []) 14 1 _ _ C uw_J5_83 (j_J5_isLatin1_aae02 hGb) dJ5_append_3fe6f_11 rfl rfl rfl rfl hGb ⟨Nat.le_of_ble_eq_true rfl, Nat.le_of_ble_eq_true rfl⟩ (Nat.le_of_ble_eq_true rfl) ⟨Nat.le_refl _, Nat.le_refl _⟩ (fun v G' hq => ?_)
  obtain ⟨rfl, rfl⟩ := hq
  refine y_as rfl rfl rfl ?_
  refine y_if_eq 17 45 C dJ5_append_3fe6f_14 rfl (by decide) (by first | assumption | omega | exact ⟨by omega, by omega⟩) (fun h14 => ?_) (fun h14 => ?_)
  · skip
    exact absurd h14 (by decide)
  · skip
    refine y_iload_n 18 C dJ5_append_3fe6f_17 rfl rfl ?_
    refine y_callS (As := [_]) 21 _ _ C vw_J5_191 tw_J1_canEncode_fc78d (j_J1_canEncode_fc78d ⟨by omega, by omega⟩) dJ5_append_3fe6f_18 rfl rfl rfl ⟨Nat.le_of_ble_eq_true rfl, Nat.le_of_ble_eq_true rfl⟩ (Nat.le_of_ble_eq_true rfl) ⟨Nat.le_refl _, Nat.le_refl _⟩ (fun v G' hq => ?_)
    obtain ⟨rfl, rfl⟩ := hq
    refine y_as rfl rfl rfl ?_
    refine y_if_eq 24 45 C dJ5_append_3fe6f_21 rfl (by decide) (by first | assumption | omega | exact ⟨by omega, by omega⟩) (fun h21 => ?_) (fun h21 => ?_)
    · skip
      exact absurd h21 (by decide)
    · skip
      refine y_aload_n 25 C dJ5_append_3fe6f_24 rfl rfl ?_
      refine y_getf 28 C fr_J5_15 hGb rfl dJ5_append_3fe6f_25 rfl ?_
      refine y_aload_n 29 C dJ5_append_3fe6f_28 rfl rfl ?_
      refine y_dup 30 C dJ5_append_3fe6f_29 rfl rfl ?_
      refine y_getf 33 C fr_J5_79 hGb rfl dJ5_append_3fe6f_30 rfl ?_
      refine y_dup_x1 34 C dJ5_append_3fe6f_33 rfl rfl rfl ?_
      refine y_iconst 35 C dJ5_append_3fe6f_34 rfl ?_
      refine y_iadd 36 C dJ5_append_3fe6f_35 rfl ?_
      refine y_putf (G' := va_up G' b (some (lB d1 ((n : Int) + 1)))) 39 0 C fw_J5_79 hGb (Nat.le_of_ble_eq_true rfl) fits_int dJ5_append_3fe6f_36 rfl rfl ?_
      refine y_iload_n 40 C dJ5_append_3fe6f_39 rfl rfl ?_
      refine y_i2b 41 C dJ5_append_3fe6f_40 rfl (b_i2b x) ?_
      refine y_bast (x := (n : Int)) 42 C ((up_n hbd1.symm).trans hGd) ⟨by omega, by omega, by omega⟩ (b_nar x) dJ5_append_3fe6f_41 rfl rfl ?_
      refine y_goto 75 C dJ5_append_3fe6f_42 (by decide) ?_
      refine y_aload_n 76 C dJ5_append_3fe6f_75 rfl rfl ?_
      exact y_aret (r := some _) C dJ5_append_3fe6f_76 rfl ⟨rfl, d1, N1, upd g1 n (sb_b x), w1, fun z => up3 hbd1 w2, by omega, w4, sb_fitU w5 (sb_fitB _), fun j hj => by unfold upd; rw [if_neg (by omega)]; exact w6 j (by omega), by unfold upd; rw [if_pos (by omega)]⟩
set_option maxHeartbeats 4000000 in
set_option maxRecDepth 100000 in
theorem j_J6_stringSize_0f7a4 {E : EV} {l : Launch} {G : FT} {x : Nat} (hx : x ≤ 9999) : MR E l yJ6_stringSize_0f7a4 cJ6_stringSize_0f7a4 4 (some .int) 0 0 0 0 [.int (i32 (x : Int))] G (pF (some (.int (i32 ((dgs x).length : Int)))) G) := by
  refine mr_of (own := RJ6) (L := [some (.int (i32 (x : Int))), none, none, none]) (by decide +kernel) rfl (Nat.le_of_ble_eq_true rfl) (List.forall_mem_cons.mpr ⟨rfl, (fun _ h => absurd h List.not_mem_nil)⟩) rfl ?_
  intro p e s m args below meth c C hin
  refine y_iconst 1 C dJ6_stringSize_0f7a4_0 rfl ?_
  refine y_istore_n 2 C dJ6_stringSize_0f7a4_1 rfl rfl rfl ?_
  refine y_iload_n 3 C dJ6_stringSize_0f7a4_2 rfl rfl ?_
  refine y_if_lt 6 11 C dJ6_stringSize_0f7a4_3 rfl (by decide) (by first | assumption | omega | exact ⟨by omega, by omega⟩) (fun h3 => ?_) (fun h3 => ?_)
  · skip
    exact absurd h3 (by omega)
  · skip
    refine y_iconst 7 C dJ6_stringSize_0f7a4_6 rfl ?_
    refine y_istore_n 8 C dJ6_stringSize_0f7a4_7 rfl rfl rfl ?_
    refine y_iload_n 9 C dJ6_stringSize_0f7a4_8 rfl rfl ?_
    refine y_ineg 10 C dJ6_stringSize_0f7a4_9 rfl ?_
    refine y_istore_n 11 C dJ6_stringSize_0f7a4_10 rfl rfl rfl ?_
    refine y_bipush 13 C dJ6_stringSize_0f7a4_11 rfl (by decide) ?_
    refine y_istore_n 14 C dJ6_stringSize_0f7a4_13 rfl rfl rfl ?_
    refine y_iconst 15 C dJ6_stringSize_0f7a4_14 rfl ?_
    refine y_istore_n 16 C dJ6_stringSize_0f7a4_15 rfl rfl rfl ?_
    refine y_loop (α := Int × Int) (fun ⟨i, q⟩ => (5 - i).toNat) (fun ⟨i, q⟩ => (i = 1 ∧ q = -10) ∨ (i = 2 ∧ q = -100 ∧ 10 ≤ x) ∨ (i = 3 ∧ q = -1000 ∧ 100 ≤ x) ∨ (i = 4 ∧ q = -10000 ∧ 1000 ≤ x)) (fun ⟨i, q⟩ => G) (fun ⟨i, q⟩ => [some (.int (i32 (-(x : Int)))), some (.int (i32 0)), some (.int (i32 q)), some (.int (i32 i))]) (fun _ => []) (1, -10) (Or.inl ⟨rfl, rfl⟩) rfl rfl rfl ?_
    intro aa hI ih
    obtain ⟨i, q⟩ := aa
    (try dsimp only at hI); (try dsimp only at ih); (try dsimp only)
    refine y_iload_n 17 C dJ6_stringSize_0f7a4_16 rfl rfl ?_
    refine y_bipush 19 C dJ6_stringSize_0f7a4_17 rfl (by decide) ?_
    refine y_icmp_ge 22 42 C dJ6_stringSize_0f7a4_19 rfl (by decide) (by first | assumption | omega | exact ⟨by omega, by omega⟩) (by first | assumption | omega | exact ⟨by omega, by omega⟩) (fun h19 => ?_) (fun h19 => ?_)
    · skip
      exact absurd h19 (by omega)
    · skip
      refine y_iload_n 23 C dJ6_stringSize_0f7a4_22 rfl rfl ?_
      refine y_iload_n 24 C dJ6_stringSize_0f7a4_23 rfl rfl ?_
      refine y_icmp_le 27 31 C dJ6_stringSize_0f7a4_24 rfl (by decide) (by first | assumption | omega | exact ⟨by omega, by omega⟩) (by first | assumption | omega | exact ⟨by omega, by omega⟩) (fun h24 => ?_) (fun h24 => ?_)
      · skip
        refine y_bipush 33 C dJ6_stringSize_0f7a4_31 rfl (by decide) ?_
        refine y_iload_n 34 C dJ6_stringSize_0f7a4_33 rfl rfl ?_
        refine y_imul 35 C dJ6_stringSize_0f7a4_34 rfl ?_
        refine y_istore_n 36 C dJ6_stringSize_0f7a4_35 rfl rfl rfl ?_
        refine y_iinc 39 C dJ6_stringSize_0f7a4_36 rfl rfl rfl rfl ?_
        refine y_goto 16 C dJ6_stringSize_0f7a4_39 (by decide) ?_
        exact ih (i + 1, 10 * q) (by (try dsimp only); omega) (by (try dsimp only); omega)
      · skip
        refine y_iload_n 28 C dJ6_stringSize_0f7a4_27 rfl rfl ?_
        refine y_iload_n 29 C dJ6_stringSize_0f7a4_28 rfl rfl ?_
        refine y_iadd 30 C dJ6_stringSize_0f7a4_29 rfl ?_
        exact y_iret C dJ6_stringSize_0f7a4_30 rfl ⟨vi (by have := dgs_l x; omega), rfl⟩
theorem b_dg {e : Int} {c : Nat} (h : e = (c : Int)) : vp_nar .byte (i32 e) = sb_b c := by
  subst h
  exact b_dig c
theorem fit_nar (v : Int32) : fits .byte (.int (vp_nar .byte v)) = true := by
  rw [vp_nar_byte]
  exact pk_fb _
set_option maxHeartbeats 4000000 in
set_option maxRecDepth 100000 in
theorem j_J6_getChars_ba4f3 {E : EV} {l : Launch} {G : FT} {x d N n : Nat} {g : Nat → Int32} {xn : Int} (hx : x ≤ 9999) (hd : G d = some (aB E N g)) (hxn : xn = (n : Int)) (hz : (dgs x).length ≤ n ∧ n ≤ N ∧ N ≤ 5000) (hf : sb_Fit g) : MR E l yJ6_getChars_ba4f3 cJ6_getChars_ba4f3 7 (some .int) 0 0 0 0 [.int (i32 (x : Int)), .int (i32 xn), .ref d] G (fun v G' => (∃ w : Int32, v = some (.int w)) ∧ ∃ g' : Nat → Int32, G' = va_up G d (some (aB E N g')) ∧ sb_Fit g' ∧ (∀ j, n ≤ j ∨ j < n - (dgs x).length → g' j = g j) ∧ ∀ j, j < (dgs x).length → g' (n - (dgs x).length + j) = sb_b ((dgs x).getD j 0)) := by
  refine mr_of (own := RJ6) (L := [some (.int (i32 (x : Int))), some (.int (i32 xn)), some (.ref d), none, none, none, none]) (by decide +kernel) rfl (Nat.le_of_ble_eq_true rfl) (List.forall_mem_cons.mpr ⟨rfl, (List.forall_mem_cons.mpr ⟨rfl, (List.forall_mem_cons.mpr ⟨rfl, (fun _ h => absurd h List.not_mem_nil)⟩)⟩)⟩) rfl ?_
  intro p e s m args below meth c C hin
  subst hxn
  obtain ⟨z1, z2, z3⟩ := hz
  have hdl := dgs_l x
  refine y_iload_n 1 C dJ6_getChars_ba4f3_0 rfl rfl ?_
  refine y_istore 3 C dJ6_getChars_ba4f3_1 rfl rfl rfl ?_
  refine y_iload_n 4 C dJ6_getChars_ba4f3_3 rfl rfl ?_
  refine y_if_ge 7 11 C dJ6_getChars_ba4f3_4 rfl (by decide) (by first | assumption | omega | exact ⟨by omega, by omega⟩) (fun h4 => ?_) (fun h4 => ?_)
  · skip
    refine y_iconst 12 C dJ6_getChars_ba4f3_11 rfl ?_
    refine y_istore 14 C dJ6_getChars_ba4f3_12 rfl rfl rfl ?_
    refine y_iload 16 C dJ6_getChars_ba4f3_14 rfl rfl ?_
    refine y_if_ne 19 22 C dJ6_getChars_ba4f3_16 rfl (by decide) (by first | assumption | omega | exact ⟨by omega, by omega⟩) (fun h16 => ?_) (fun h16 => ?_)
    · skip
      exact absurd rfl h16
    · skip
      refine y_iload_n 20 C dJ6_getChars_ba4f3_19 rfl rfl ?_
      refine y_ineg 21 C dJ6_getChars_ba4f3_20 rfl ?_
      refine y_istore_n 22 C dJ6_getChars_ba4f3_21 rfl rfl rfl ?_
      refine y_iload_n 23 C dJ6_getChars_ba4f3_22 rfl rfl ?_
      refine y_bipush 25 C dJ6_getChars_ba4f3_23 rfl (by decide) ?_
      refine y_icmp_gt 28 72 C dJ6_getChars_ba4f3_25 rfl (by decide) (by first | assumption | omega | exact ⟨by omega, by omega⟩) (by first | assumption | omega | exact ⟨by omega, by omega⟩) (fun h25 => ?_) (fun h25 => ?_)
      · skip
        refine y_aload_n 73 C dJ6_getChars_ba4f3_72 rfl rfl ?_
        refine y_iinc 76 C dJ6_getChars_ba4f3_73 rfl rfl rfl rfl ?_
        refine y_iload 78 C dJ6_getChars_ba4f3_76 rfl rfl ?_
        refine y_getsD1 81 C (aw_i 686 (by decide +kernel) rfl) dJ6_getChars_ba4f3_78 rfl (fun t ht => ?_)
        refine y_iload_n 82 C dJ6_getChars_ba4f3_81 rfl rfl ?_
        refine y_ineg 83 C dJ6_getChars_ba4f3_82 rfl ?_
        refine y_tb 84 C ht ⟨by omega, by omega⟩ dJ6_getChars_ba4f3_83 rfl ?_
        refine y_bast 85 C hd ⟨by omega, by omega, by omega⟩ rfl dJ6_getChars_ba4f3_84 rfl rfl ?_
        refine y_iload_n 86 C dJ6_getChars_ba4f3_85 rfl rfl ?_
        refine y_bipush 88 C dJ6_getChars_ba4f3_86 rfl (by decide) ?_
        refine y_icmp_ge 91 104 C dJ6_getChars_ba4f3_88 rfl (by decide) (by first | assumption | omega | exact ⟨by omega, by omega⟩) (by first | assumption | omega | exact ⟨by omega, by omega⟩) (fun h88 => ?_) (fun h88 => ?_)
        · skip
          refine y_iload 106 C dJ6_getChars_ba4f3_104 rfl rfl ?_
          refine y_if_eq 109 118 C dJ6_getChars_ba4f3_106 rfl (by decide) (by first | assumption | omega | exact ⟨by omega, by omega⟩) (fun h106 => ?_) (fun h106 => ?_)
          · skip
            refine y_iload 120 C dJ6_getChars_ba4f3_118 rfl rfl ?_
            exact y_iret C dJ6_getChars_ba4f3_120 rfl (by (have hdg : dgs x = [48 + x] := by (unfold dgs; rw [if_pos (by omega)])); exact ⟨⟨_, rfl⟩, _, rfl, (sb_fitU hf (fit_nar _)), fun j hj => by (unfold upd; rw [hdg] at hj; (have hj2 : n ≤ j ∨ j < n - 1 := hj); rw [if_neg (by omega)]), fun j hj => by (rw [hdg] at hj ⊢; have hj2 : j = 0 := by (have : j < 1 := hj; omega)); rcases hj2 with rfl <;> first | (simp only [List.length_cons, List.length_nil]; unfold upd; rw [if_pos (by omega)]; show _ = sb_b (48 + x); exact b_dg (by omega))⟩)
          · skip
            exact absurd rfl h106
        · skip
          refine y_aload_n 92 C dJ6_getChars_ba4f3_91 rfl rfl ?_
          refine y_iinc 95 C dJ6_getChars_ba4f3_92 rfl rfl rfl rfl ?_
          refine y_iload 97 C dJ6_getChars_ba4f3_95 rfl rfl ?_
          refine y_getsD2 100 C (aw_i 688 (by decide +kernel) rfl) dJ6_getChars_ba4f3_97 rfl (fun t ht => ?_)
          refine y_iload_n 101 C dJ6_getChars_ba4f3_100 rfl rfl ?_
          refine y_ineg 102 C dJ6_getChars_ba4f3_101 rfl ?_
          refine y_tb 103 C ht ⟨by omega, by omega⟩ dJ6_getChars_ba4f3_102 rfl ?_
          refine y_bast 104 C up_s ⟨by omega, by omega, by omega⟩ rfl dJ6_getChars_ba4f3_103 rfl (up_up _ _ _ _) ?_
          refine y_iload 106 C dJ6_getChars_ba4f3_104 rfl rfl ?_
          refine y_if_eq 109 118 C dJ6_getChars_ba4f3_106 rfl (by decide) (by first | assumption | omega | exact ⟨by omega, by omega⟩) (fun h106 => ?_) (fun h106 => ?_)
          · skip
            refine y_iload 120 C dJ6_getChars_ba4f3_118 rfl rfl ?_
            exact y_iret C dJ6_getChars_ba4f3_120 rfl (by (have hdg : dgs x = [48 + x / 10, 48 + x % 10] := by (unfold dgs; rw [if_neg (by omega), if_pos (by omega)])); exact ⟨⟨_, rfl⟩, _, rfl, (sb_fitU (sb_fitU hf (fit_nar _)) (fit_nar _)), fun j hj => by (unfold upd; rw [hdg] at hj; (have hj2 : n ≤ j ∨ j < n - 2 := hj); rw [if_neg (by omega), if_neg (by omega)]), fun j hj => by (rw [hdg] at hj ⊢; have hj2 : j = 0 ∨ j = 1 := by (have : j < 2 := hj; omega)); rcases hj2 with rfl | rfl <;> first | (simp only [List.length_cons, List.length_nil]; unfold upd; rw [if_pos (by omega)]; show _ = sb_b (48 + x / 10); exact b_dg (by omega)) | (simp only [List.length_cons, List.length_nil]; unfold upd; rw [if_neg (by omega), if_pos (by omega)]; show _ = sb_b (48 + x % 10); exact b_dg (by omega))⟩)
          · skip
            exact absurd rfl h106
      · skip
        refine y_iload_n 29 C dJ6_getChars_ba4f3_28 rfl rfl ?_
        refine y_bipush 31 C dJ6_getChars_ba4f3_29 rfl (by decide) ?_
        refine y_idivN 32 C dJ6_getChars_ba4f3_31 rfl ⟨⟨by omega, by omega⟩, by omega, by omega⟩ ?_
        refine y_istore_n 33 C dJ6_getChars_ba4f3_32 rfl rfl rfl ?_
        refine y_iload_n 34 C dJ6_getChars_ba4f3_33 rfl rfl ?_
        refine y_bipush 36 C dJ6_getChars_ba4f3_34 rfl (by decide) ?_
        refine y_imul 37 C dJ6_getChars_ba4f3_36 rfl ?_
        refine y_iload_n 38 C dJ6_getChars_ba4f3_37 rfl rfl ?_
        refine y_isub 39 C dJ6_getChars_ba4f3_38 rfl ?_
        refine y_istore 41 C dJ6_getChars_ba4f3_39 rfl rfl rfl ?_
        refine y_iload_n 42 C dJ6_getChars_ba4f3_41 rfl rfl ?_
        refine y_istore_n 43 C dJ6_getChars_ba4f3_42 rfl rfl rfl ?_
        refine y_aload_n 44 C dJ6_getChars_ba4f3_43 rfl rfl ?_
        refine y_iinc 47 C dJ6_getChars_ba4f3_44 rfl rfl rfl rfl ?_
        refine y_iload 49 C dJ6_getChars_ba4f3_47 rfl rfl ?_
        refine y_getsD1 52 C (aw_i 686 (by decide +kernel) rfl) dJ6_getChars_ba4f3_49 rfl (fun t ht => ?_)
        refine y_iload 54 C dJ6_getChars_ba4f3_52 rfl rfl ?_
        refine y_tb 55 C ht ⟨by omega, by omega⟩ dJ6_getChars_ba4f3_54 rfl ?_
        refine y_bast 56 C hd ⟨by omega, by omega, by omega⟩ rfl dJ6_getChars_ba4f3_55 rfl rfl ?_
        refine y_aload_n 57 C dJ6_getChars_ba4f3_56 rfl rfl ?_
        refine y_iinc 60 C dJ6_getChars_ba4f3_57 rfl rfl rfl rfl ?_
        refine y_iload 62 C dJ6_getChars_ba4f3_60 rfl rfl ?_
        refine y_getsD2 65 C (aw_i 688 (by decide +kernel) rfl) dJ6_getChars_ba4f3_62 rfl (fun t ht => ?_)
        refine y_iload 67 C dJ6_getChars_ba4f3_65 rfl rfl ?_
        refine y_tb 68 C ht ⟨by omega, by omega⟩ dJ6_getChars_ba4f3_67 rfl ?_
        refine y_bast 69 C up_s ⟨by omega, by omega, by omega⟩ rfl dJ6_getChars_ba4f3_68 rfl (up_up _ _ _ _) ?_
        refine y_goto 22 C dJ6_getChars_ba4f3_69 (by decide) ?_
        refine y_iload_n 23 C dJ6_getChars_ba4f3_22 rfl rfl ?_
        refine y_bipush 25 C dJ6_getChars_ba4f3_23 rfl (by decide) ?_
        refine y_icmp_gt 28 72 C dJ6_getChars_ba4f3_25 rfl (by decide) (by first | assumption | omega | exact ⟨by omega, by omega⟩) (by first | assumption | omega | exact ⟨by omega, by omega⟩) (fun h25 => ?_) (fun h25 => ?_)
        · skip
          refine y_aload_n 73 C dJ6_getChars_ba4f3_72 rfl rfl ?_
          refine y_iinc 76 C dJ6_getChars_ba4f3_73 rfl rfl rfl rfl ?_
          refine y_iload 78 C dJ6_getChars_ba4f3_76 rfl rfl ?_
          refine y_getsD1 81 C (aw_i 686 (by decide +kernel) rfl) dJ6_getChars_ba4f3_78 rfl (fun t ht => ?_)
          refine y_iload_n 82 C dJ6_getChars_ba4f3_81 rfl rfl ?_
          refine y_ineg 83 C dJ6_getChars_ba4f3_82 rfl ?_
          refine y_tb 84 C ht ⟨by omega, by omega⟩ dJ6_getChars_ba4f3_83 rfl ?_
          refine y_bast 85 C up_s ⟨by omega, by omega, by omega⟩ rfl dJ6_getChars_ba4f3_84 rfl (up_up _ _ _ _) ?_
          refine y_iload_n 86 C dJ6_getChars_ba4f3_85 rfl rfl ?_
          refine y_bipush 88 C dJ6_getChars_ba4f3_86 rfl (by decide) ?_
          refine y_icmp_ge 91 104 C dJ6_getChars_ba4f3_88 rfl (by decide) (by first | assumption | omega | exact ⟨by omega, by omega⟩) (by first | assumption | omega | exact ⟨by omega, by omega⟩) (fun h88 => ?_) (fun h88 => ?_)
          · skip
            refine y_iload 106 C dJ6_getChars_ba4f3_104 rfl rfl ?_
            refine y_if_eq 109 118 C dJ6_getChars_ba4f3_106 rfl (by decide) (by first | assumption | omega | exact ⟨by omega, by omega⟩) (fun h106 => ?_) (fun h106 => ?_)
            · skip
              refine y_iload 120 C dJ6_getChars_ba4f3_118 rfl rfl ?_
              exact y_iret C dJ6_getChars_ba4f3_120 rfl (by (have hdg : dgs x = [48 + x / 100, 48 + x / 10 % 10, 48 + x % 10] := by (unfold dgs; rw [if_neg (by omega), if_neg (by omega), if_pos (by omega)])); exact ⟨⟨_, rfl⟩, _, rfl, (sb_fitU (sb_fitU (sb_fitU hf (fit_nar _)) (fit_nar _)) (fit_nar _)), fun j hj => by (unfold upd; rw [hdg] at hj; (have hj2 : n ≤ j ∨ j < n - 3 := hj); rw [if_neg (by omega), if_neg (by omega), if_neg (by omega)]), fun j hj => by (rw [hdg] at hj ⊢; have hj2 : j = 0 ∨ j = 1 ∨ j = 2 := by (have : j < 3 := hj; omega)); rcases hj2 with rfl | rfl | rfl <;> first | (simp only [List.length_cons, List.length_nil]; unfold upd; rw [if_pos (by omega)]; show _ = sb_b (48 + x / 100); exact b_dg (by omega)) | (simp only [List.length_cons, List.length_nil]; unfold upd; rw [if_neg (by omega), if_pos (by omega)]; show _ = sb_b (48 + x / 10 % 10); exact b_dg (by omega)) | (simp only [List.length_cons, List.length_nil]; unfold upd; rw [if_neg (by omega), if_neg (by omega), if_pos (by omega)]; show _ = sb_b (48 + x % 10); exact b_dg (by omega))⟩)
            · skip
              exact absurd rfl h106
          · skip
            refine y_aload_n 92 C dJ6_getChars_ba4f3_91 rfl rfl ?_
            refine y_iinc 95 C dJ6_getChars_ba4f3_92 rfl rfl rfl rfl ?_
            refine y_iload 97 C dJ6_getChars_ba4f3_95 rfl rfl ?_
            refine y_getsD2 100 C (aw_i 688 (by decide +kernel) rfl) dJ6_getChars_ba4f3_97 rfl (fun t ht => ?_)
            refine y_iload_n 101 C dJ6_getChars_ba4f3_100 rfl rfl ?_
            refine y_ineg 102 C dJ6_getChars_ba4f3_101 rfl ?_
            refine y_tb 103 C ht ⟨by omega, by omega⟩ dJ6_getChars_ba4f3_102 rfl ?_
            refine y_bast 104 C up_s ⟨by omega, by omega, by omega⟩ rfl dJ6_getChars_ba4f3_103 rfl (up_up _ _ _ _) ?_
            refine y_iload 106 C dJ6_getChars_ba4f3_104 rfl rfl ?_
            refine y_if_eq 109 118 C dJ6_getChars_ba4f3_106 rfl (by decide) (by first | assumption | omega | exact ⟨by omega, by omega⟩) (fun h106 => ?_) (fun h106 => ?_)
            · skip
              refine y_iload 120 C dJ6_getChars_ba4f3_118 rfl rfl ?_
              exact y_iret C dJ6_getChars_ba4f3_120 rfl (by (have hdg : dgs x = [48 + x / 1000, 48 + x / 100 % 10, 48 + x / 10 % 10, 48 + x % 10] := by (unfold dgs; rw [if_neg (by omega), if_neg (by omega), if_neg (by omega)])); exact ⟨⟨_, rfl⟩, _, rfl, (sb_fitU (sb_fitU (sb_fitU (sb_fitU hf (fit_nar _)) (fit_nar _)) (fit_nar _)) (fit_nar _)), fun j hj => by (unfold upd; rw [hdg] at hj; (have hj2 : n ≤ j ∨ j < n - 4 := hj); rw [if_neg (by omega), if_neg (by omega), if_neg (by omega), if_neg (by omega)]), fun j hj => by (rw [hdg] at hj ⊢; have hj2 : j = 0 ∨ j = 1 ∨ j = 2 ∨ j = 3 := by (have : j < 4 := hj; omega)); rcases hj2 with rfl | rfl | rfl | rfl <;> first | (simp only [List.length_cons, List.length_nil]; unfold upd; rw [if_pos (by omega)]; show _ = sb_b (48 + x / 1000); exact b_dg (by omega)) | (simp only [List.length_cons, List.length_nil]; unfold upd; rw [if_neg (by omega), if_pos (by omega)]; show _ = sb_b (48 + x / 100 % 10); exact b_dg (by omega)) | (simp only [List.length_cons, List.length_nil]; unfold upd; rw [if_neg (by omega), if_neg (by omega), if_pos (by omega)]; show _ = sb_b (48 + x / 10 % 10); exact b_dg (by omega)) | (simp only [List.length_cons, List.length_nil]; unfold upd; rw [if_neg (by omega), if_neg (by omega), if_neg (by omega), if_pos (by omega)]; show _ = sb_b (48 + x % 10); exact b_dg (by omega))⟩)
            · skip
              exact absurd rfl h106
        · skip
          exact absurd h25 (by omega)
  · skip
    exact absurd h4 (by omega)
set_option maxHeartbeats 4000000 in
set_option maxRecDepth 100000 in
theorem j_J5_append_c97b9 {E : EV} {l : Launch} {G : FT} {b d N n x ms : Nat} {g : Nat → Int32} (hg : G b = some (lB d (n : Int))) (hd : G d = some (aB E N g)) (hx : x ≤ 9999) (hz : n ≤ N ∧ N ≤ 5000 ∧ n + 8 ≤ 1000 ∧ 2 * (n + 8) + 2 ≤ ms) (hf : sb_Fit g) : MR E l yJ5_append_c97b9 cJ5_append_c97b9 4 (some (.object "java/lang/AbstractStringBuilder")) 4 104 1 ms [.ref b, .int (i32 (x : Int))] G (fun v G' => v = some (.ref b) ∧ ∃ (d' N' : Nat) (g' : Nat → Int32), (d' = d ∨ (G d' = none ∧ d' ≠ b)) ∧ (∀ zz, G' zz = if zz = b then some (lB d' ((n + (dgs x).length : Nat) : Int)) else if zz = d' then some (aB E N' g') else G zz) ∧ n + (dgs x).length ≤ N' ∧ N' ≤ 5000 ∧ sb_Fit g' ∧ (∀ j, j < n → g' j = g j) ∧ ∀ j, j < (dgs x).length → g' (n + j) = sb_b ((dgs x).getD j 0)) := by
  refine mr_of (own := RJ5) (L := [some (.ref b), some (.int (i32 (x : Int))), none, none]) (by decide +kernel) rfl (Nat.le_of_ble_eq_true rfl) (List.forall_mem_cons.mpr ⟨rfl, (List.forall_mem_cons.mpr ⟨rfl, (fun _ h => absurd h List.not_mem_nil)⟩)⟩) rfl ?_
  intro p e s m args below meth c C hin
  obtain ⟨z1, z2, z3, z4⟩ := hz
  have hdl := dgs_l x
  refine y_aload_n 1 C dJ5_append_c97b9_0 rfl rfl ?_
  refine y_getf 4 C fr_J5_79 hg rfl dJ5_append_c97b9_1 rfl ?_
  refine y_istore_n 5 C dJ5_append_c97b9_4 rfl rfl rfl ?_
  refine y_iload_n 6 C dJ5_append_c97b9_5 rfl rfl ?_
  refine y_iload_n 7 C dJ5_append_c97b9_6 rfl rfl ?_
  refine y_callS (As := [_]) 10 _ _ C vw_J5_245 tw_J6_stringSize_0f7a4 (j_J6_stringSize_0f7a4 hx) dJ5_append_c97b9_7 rfl rfl rfl ⟨Nat.le_of_ble_eq_true rfl, Nat.le_of_ble_eq_true rfl⟩ (Nat.le_of_ble_eq_true rfl) ⟨Nat.le_refl _, Nat.le_refl _⟩ (fun v G' hq => ?_)
  obtain ⟨rfl, rfl⟩ := hq
  refine y_as rfl rfl rfl ?_
  refine y_iadd 11 C dJ5_append_c97b9_10 rfl ?_
  refine y_istore_n 12 C dJ5_append_c97b9_11 rfl rfl rfl ?_
  refine y_aload_n 13 C dJ5_append_c97b9_12 rfl rfl ?_
  refine y_iload_n 14 C dJ5_append_c97b9_13 rfl rfl ?_
  refine y_callU (As := [_]) 17 1 0 0 C uw_J5_100 (j_J5_ensureCapacityInternal_d00df (ms := ms) (q := n + (dgs x).length) hg hd (by omega) ⟨z2, by omega, by omega⟩ hf) dJ5_append_c97b9_14 rfl rfl rfl rfl hg ⟨Nat.le_of_ble_eq_true rfl, Nat.le_of_ble_eq_true rfl⟩ (Nat.le_of_ble_eq_true rfl) ⟨by omega, by omega⟩ (fun v G' hq => ?_)
  obtain ⟨rfl, d1, N1, g1, w1, w2, w3, w4, w5, w6⟩ := hq
  have hbd1 : b ≠ d1 := w1.elim (fun h z => by rw [z, h, hd] at hg; cases hg) (fun h => h.2.symm)
  have hGb : G' b = some (lB d1 (n : Int)) := (w2 b).trans (if_pos rfl)
  have hGd : G' d1 = some (aB E N1 g1) := (w2 d1).trans (by rw [if_neg hbd1.symm, if_pos rfl])
  refine y_as rfl rfl rfl ?_
  refine y_aload_n 18 C dJ5_append_c97b9_17 rfl rfl ?_
  refine y_callU (As := []) 21 1 _ _ C uw_J5_83 (j_J5_isLatin1_aae02 hGb) dJ5_append_c97b9_18 rfl rfl rfl rfl hGb ⟨Nat.le_of_ble_eq_true rfl, Nat.le_of_ble_eq_true rfl⟩ (Nat.le_of_ble_eq_true rfl) ⟨Nat.le_refl _, Nat.le_refl _⟩ (fun v G' hq => ?_)
  obtain ⟨rfl, rfl⟩ := hq
  refine y_as rfl rfl rfl ?_
  refine y_if_eq 24 37 C dJ5_append_c97b9_21 rfl (by decide) (by first | assumption | omega | exact ⟨by omega, by omega⟩) (fun h21 => ?_) (fun h21 => ?_)
  · skip
    exact absurd h21 (by decide)
  · skip
    refine y_iload_n 25 C dJ5_append_c97b9_24 rfl rfl ?_
    refine y_iload_n 26 C dJ5_append_c97b9_25 rfl rfl ?_
    refine y_aload_n 27 C dJ5_append_c97b9_26 rfl rfl ?_
    refine y_getf 30 C fr_J5_15 hGb rfl dJ5_append_c97b9_27 rfl ?_
    refine y_callS (As := [_, _, _]) 33 _ _ C vw_J5_248 tw_J6_getChars_ba4f3 (j_J6_getChars_ba4f3 (n := n + (dgs x).length) hx hGd (by omega) ⟨by omega, w3, w4⟩ w5) dJ5_append_c97b9_30 rfl rfl rfl ⟨Nat.le_of_ble_eq_true rfl, Nat.le_of_ble_eq_true rfl⟩ (Nat.le_of_ble_eq_true rfl) ⟨Nat.le_refl _, Nat.le_refl _⟩ (fun v G' hq => ?_)
    obtain ⟨⟨w, rfl⟩, g2, rfl, u1, u2, u3⟩ := hq
    refine y_as rfl rfl rfl ?_
    refine y_pop 34 C dJ5_append_c97b9_33 rfl rfl ?_
    refine y_goto 48 C dJ5_append_c97b9_34 (by decide) ?_
    refine y_aload_n 49 C dJ5_append_c97b9_48 rfl rfl ?_
    refine y_iload_n 50 C dJ5_append_c97b9_49 rfl rfl ?_
    refine y_putf 53 0 C fw_J5_79 ((up_n hbd1).trans hGb) (Nat.le_of_ble_eq_true rfl) fits_int dJ5_append_c97b9_50 rfl rfl ?_
    refine y_aload_n 54 C dJ5_append_c97b9_53 rfl rfl ?_
    exact y_aret (r := some _) C dJ5_append_c97b9_54 rfl ⟨rfl, d1, N1, g2, w1, fun z => up4 hbd1 w2, w3, w4, u1, fun j hj => by (rw [u2 j (by omega)]; exact w6 j (by omega)), fun j hj => by (have := u3 j hj; rwa [show n + (dgs x).length - (dgs x).length + j = n + j by omega] at this)⟩
set_option maxHeartbeats 4000000 in
set_option maxRecDepth 100000 in
theorem j_J5_append_cf1ce {E : EV} {l : Launch} {G : FT} {b d N n i ms : Nat} {g : Nat → Int32} (hg : G b = some (lB d (n : Int))) (hd : G d = some (aB E N g)) (hi : i < 2) (hz : n ≤ N ∧ N ≤ 5000 ∧ n + 8 ≤ 1000 ∧ 2 * (n + 8) + 2 ≤ ms) (hf : sb_Fit g) : MR E l yJ5_append_cf1ce cJ5_append_cf1ce 3 (some (.object "java/lang/AbstractStringBuilder")) 4 105 1 ms [.ref b, .ref (kS E i)] G (fun v G' => v = some (.ref b) ∧ ∃ (d' N' : Nat) (g' : Nat → Int32), (d' = d ∨ (G d' = none ∧ d' ≠ b)) ∧ (∀ zz, G' zz = if zz = b then some (lB d' ((n + (kT i).length : Nat) : Int)) else if zz = d' then some (aB E N' g') else G zz) ∧ n + (kT i).length ≤ N' ∧ N' ≤ 5000 ∧ sb_Fit g' ∧ (∀ j, j < n → g' j = g j) ∧ ∀ j, j < (kT i).length → g' (n + j) = sb_b ((kT i).getD j 0)) := by
  refine mr_of (own := RJ5) (L := [some (.ref b), some (.ref (kS E i)), none]) (by decide +kernel) rfl (Nat.le_of_ble_eq_true rfl) (List.forall_mem_cons.mpr ⟨rfl, (List.forall_mem_cons.mpr ⟨rfl, (fun _ h => absurd h List.not_mem_nil)⟩)⟩) rfl ?_
  intro p e s m args below meth c C hin
  obtain ⟨z1, z2, z3, z4⟩ := hz
  have hkl := kT_len hi
  refine y_aload_n 1 C dJ5_append_cf1ce_0 rfl rfl ?_
  refine y_ifnonnull (r := some _) 4 9 C dJ5_append_cf1ce_1 rfl (by decide) (fun _ _ => ?_) (fun z => by cases z)
  refine y_aload_n 10 C dJ5_append_cf1ce_9 rfl rfl ?_
  refine y_callK (As := []) 13 i _ _ hi C vw_J5_32 iw_J0_length_8abf5 sw_J0_length_8abf5 (j_J0_length_8abf5K hi) dJ5_append_cf1ce_10 rfl rfl rfl rfl ⟨Nat.le_of_ble_eq_true rfl, Nat.le_of_ble_eq_true rfl⟩ (Nat.le_of_ble_eq_true rfl) ⟨Nat.le_refl _, Nat.le_refl _⟩ (aw_i 605 (by decide +kernel) rfl) (fun v G' hq => ?_)
  obtain ⟨rfl, rfl⟩ := hq
  refine y_as rfl rfl rfl ?_
  refine y_istore_n 14 C dJ5_append_cf1ce_13 rfl rfl rfl ?_
  refine y_aload_n 15 C dJ5_append_cf1ce_14 rfl rfl ?_
  refine y_aload_n 16 C dJ5_append_cf1ce_15 rfl rfl ?_
  refine y_getf 19 C fr_J5_79 hg rfl dJ5_append_cf1ce_16 rfl ?_
  refine y_iload_n 20 C dJ5_append_cf1ce_19 rfl rfl ?_
  refine y_iadd 21 C dJ5_append_cf1ce_20 rfl ?_
  refine y_callU (As := [_]) 24 1 0 0 C uw_J5_100 (j_J5_ensureCapacityInternal_d00df (ms := ms) (q := n + (kT i).length) hg hd (by omega) ⟨z2, by omega, by omega⟩ hf) dJ5_append_cf1ce_21 rfl rfl rfl rfl hg ⟨Nat.le_of_ble_eq_true rfl, Nat.le_of_ble_eq_true rfl⟩ (Nat.le_of_ble_eq_true rfl) ⟨by omega, by omega⟩ (fun v G' hq => ?_)
  obtain ⟨rfl, d1, N1, g1, w1, w2, w3, w4, w5, w6⟩ := hq
  have hbd1 : b ≠ d1 := w1.elim (fun h z => by rw [z, h, hd] at hg; cases hg) (fun h => h.2.symm)
  have hGb : G' b = some (lB d1 (n : Int)) := (w2 b).trans (if_pos rfl)
  have hGd : G' d1 = some (aB E N1 g1) := (w2 d1).trans (by rw [if_neg hbd1.symm, if_pos rfl])
  refine y_as rfl rfl rfl ?_
  refine y_aload_n 25 C dJ5_append_cf1ce_24 rfl rfl ?_
  refine y_aload_n 26 C dJ5_append_cf1ce_25 rfl rfl ?_
  refine y_getf 29 C fr_J5_79 hGb rfl dJ5_append_cf1ce_26 rfl ?_
  refine y_aload_n 30 C dJ5_append_cf1ce_29 rfl rfl ?_
  refine y_callU (As := [_, _]) 33 1 _ _ C uw_J5_208 (j_J5_putStringAt_47b60 (dp := n) hi hGb hGd rfl ⟨w4, w3⟩) dJ5_append_cf1ce_30 rfl rfl rfl rfl hGb ⟨Nat.le_of_ble_eq_true rfl, Nat.le_of_ble_eq_true rfl⟩ (Nat.le_of_ble_eq_true rfl) ⟨Nat.le_refl _, Nat.le_refl _⟩ (fun v G' hq => ?_)
  obtain ⟨rfl, rfl⟩ := hq
  refine y_as rfl rfl rfl ?_
  have hGb2 : va_up G' d1 (some (aB E N1 (va_cpy (fun j => sb_b ((kT i).getD j 0)) g1 0 n (kT i).length))) b = some (lB d1 (n : Int)) := (up_n hbd1).trans hGb
  refine y_aload_n 34 C dJ5_append_cf1ce_33 rfl rfl ?_
  refine y_dup 35 C dJ5_append_cf1ce_34 rfl rfl ?_
  refine y_getf 38 C fr_J5_79 hGb2 rfl dJ5_append_cf1ce_35 rfl ?_
  refine y_iload_n 39 C dJ5_append_cf1ce_38 rfl rfl ?_
  refine y_iadd 40 C dJ5_append_cf1ce_39 rfl ?_
  refine y_putf 43 0 C fw_J5_79 hGb2 (Nat.le_of_ble_eq_true rfl) fits_int dJ5_append_cf1ce_40 rfl rfl ?_
  refine y_aload_n 44 C dJ5_append_cf1ce_43 rfl rfl ?_
  exact y_aret (r := some _) C dJ5_append_cf1ce_44 rfl ⟨rfl, d1, N1, va_cpy (fun j => sb_b ((kT i).getD j 0)) g1 0 n (kT i).length, w1, fun z => up4 hbd1 w2, w3, w4, sb_fitC (fun j => sb_fitB _) w5, fun j hj => by (unfold va_cpy; rw [if_neg (by omega)]; exact w6 j (by omega)), fun j hj => by (unfold va_cpy; rw [if_pos ⟨by omega, by omega⟩, show 0 + (n + j - n) = j by omega])⟩
set_option maxHeartbeats 4000000 in
set_option maxRecDepth 100000 in
theorem j_J4_append_15ec4 {E : EV} {l : Launch} {G : FT} {b d N n i ms : Nat} {g : Nat → Int32} (hg : G b = some (lB d (n : Int))) (hd : G d = some (aB E N g)) (hi : i < 2) (hz : n ≤ N ∧ N ≤ 5000 ∧ n + 8 ≤ 1000 ∧ 2 * (n + 8) + 2 ≤ ms) (hf : sb_Fit g) : MR E l yJ4_append_15ec4 cJ4_append_15ec4 2 (some (.object "java/lang/StringBuilder")) 5 127 1 ms [.ref b, .ref (kS E i)] G (fun v G' => v = some (.ref b) ∧ ∃ (d' N' : Nat) (g' : Nat → Int32), (d' = d ∨ (G d' = none ∧ d' ≠ b)) ∧ (∀ zz, G' zz = if zz = b then some (lB d' ((n + (kT i).length : Nat) : Int)) else if zz = d' then some (aB E N' g') else G zz) ∧ n + (kT i).length ≤ N' ∧ N' ≤ 5000 ∧ sb_Fit g' ∧ (∀ j, j < n → g' j = g j) ∧ ∀ j, j < (kT i).length → g' (n + j) = sb_b ((kT i).getD j 0)) := by
  refine mr_of (own := RJ4) (L := [some (.ref b), some (.ref (kS E i))]) (by decide +kernel) rfl (Nat.le_of_ble_eq_true rfl) (List.forall_mem_cons.mpr ⟨rfl, (List.forall_mem_cons.mpr ⟨rfl, (fun _ h => absurd h List.not_mem_nil)⟩)⟩) rfl ?_
  intro p e s m args below meth c C hin
  refine y_aload_n 1 C dJ4_append_15ec4_0 rfl rfl ?_
  refine y_aload_n 2 C dJ4_append_15ec4_1 rfl rfl ?_
  refine y_callSU (As := [_]) 5 1 0 0 C suw_J4_29 (j_J5_append_cf1ce hg hd hi hz hf) dJ4_append_15ec4_2 rfl rfl rfl rfl hg ⟨Nat.le_of_ble_eq_true rfl, Nat.le_of_ble_eq_true rfl⟩ (Nat.le_of_ble_eq_true rfl) ⟨by omega, by omega⟩ (fun v G' hq => ?_)
  obtain ⟨rfl, q⟩ := hq
  refine y_as rfl rfl rfl ?_
  refine y_pop 6 C dJ4_append_15ec4_5 rfl rfl ?_
  refine y_aload_n 7 C dJ4_append_15ec4_6 rfl rfl ?_
  exact y_aret (r := some _) C dJ4_append_15ec4_7 rfl ⟨rfl, q⟩
set_option maxHeartbeats 4000000 in
set_option maxRecDepth 100000 in
theorem j_J4_append_bf812 {E : EV} {l : Launch} {G : FT} {b d N n x ms : Nat} {g : Nat → Int32} (hg : G b = some (lB d (n : Int))) (hd : G d = some (aB E N g)) (hx : x ≤ 9999) (hz : n ≤ N ∧ N ≤ 5000 ∧ n + 8 ≤ 1000 ∧ 2 * (n + 8) + 2 ≤ ms) (hf : sb_Fit g) : MR E l yJ4_append_bf812 cJ4_append_bf812 2 (some (.object "java/lang/StringBuilder")) 5 127 1 ms [.ref b, .int (i32 (x : Int))] G (fun v G' => v = some (.ref b) ∧ ∃ (d' N' : Nat) (g' : Nat → Int32), (d' = d ∨ (G d' = none ∧ d' ≠ b)) ∧ (∀ zz, G' zz = if zz = b then some (lB d' ((n + (dgs x).length : Nat) : Int)) else if zz = d' then some (aB E N' g') else G zz) ∧ n + (dgs x).length ≤ N' ∧ N' ≤ 5000 ∧ sb_Fit g' ∧ (∀ j, j < n → g' j = g j) ∧ ∀ j, j < (dgs x).length → g' (n + j) = sb_b ((dgs x).getD j 0)) := by
  refine mr_of (own := RJ4) (L := [some (.ref b), some (.int (i32 (x : Int)))]) (by decide +kernel) rfl (Nat.le_of_ble_eq_true rfl) (List.forall_mem_cons.mpr ⟨rfl, (List.forall_mem_cons.mpr ⟨rfl, (fun _ h => absurd h List.not_mem_nil)⟩)⟩) rfl ?_
  intro p e s m args below meth c C hin
  refine y_aload_n 1 C dJ4_append_bf812_0 rfl rfl ?_
  refine y_iload_n 2 C dJ4_append_bf812_1 rfl rfl ?_
  refine y_callSU (As := [_]) 5 1 0 0 C suw_J4_53 (j_J5_append_c97b9 hg hd hx hz hf) dJ4_append_bf812_2 rfl rfl rfl rfl hg ⟨Nat.le_of_ble_eq_true rfl, Nat.le_of_ble_eq_true rfl⟩ (Nat.le_of_ble_eq_true rfl) ⟨by omega, by omega⟩ (fun v G' hq => ?_)
  obtain ⟨rfl, q⟩ := hq
  refine y_as rfl rfl rfl ?_
  refine y_pop 6 C dJ4_append_bf812_5 rfl rfl ?_
  refine y_aload_n 7 C dJ4_append_bf812_6 rfl rfl ?_
  exact y_aret (r := some _) C dJ4_append_bf812_7 rfl ⟨rfl, q⟩
set_option maxHeartbeats 4000000 in
set_option maxRecDepth 100000 in
theorem j_J4_append_cf468 {E : EV} {l : Launch} {G : FT} {b d N n x ms : Nat} {g : Nat → Int32} (hg : G b = some (lB d (n : Int))) (hd : G d = some (aB E N g)) (hx : x < 128) (hz : n ≤ N ∧ N ≤ 5000 ∧ n + 8 ≤ 1000 ∧ 2 * (n + 8) + 2 ≤ ms) (hf : sb_Fit g) : MR E l yJ4_append_cf468 cJ4_append_cf468 2 (some (.object "java/lang/StringBuilder")) 5 125 1 ms [.ref b, .int (i32 (x : Int))] G (fun v G' => v = some (.ref b) ∧ ∃ (d' N' : Nat) (g' : Nat → Int32), (d' = d ∨ (G d' = none ∧ d' ≠ b)) ∧ (∀ zz, G' zz = if zz = b then some (lB d' ((n + ([x]).length : Nat) : Int)) else if zz = d' then some (aB E N' g') else G zz) ∧ n + ([x]).length ≤ N' ∧ N' ≤ 5000 ∧ sb_Fit g' ∧ (∀ j, j < n → g' j = g j) ∧ ∀ j, j < ([x]).length → g' (n + j) = sb_b (([x]).getD j 0)) := by
  refine mr_of (own := RJ4) (L := [some (.ref b), some (.int (i32 (x : Int)))]) (by decide +kernel) rfl (Nat.le_of_ble_eq_true rfl) (List.forall_mem_cons.mpr ⟨rfl, (List.forall_mem_cons.mpr ⟨rfl, (fun _ h => absurd h List.not_mem_nil)⟩)⟩) rfl ?_
  intro p e s m args below meth c C hin
  obtain ⟨z1, z2, z3, z4⟩ := hz
  refine y_aload_n 1 C dJ4_append_cf468_0 rfl rfl ?_
  refine y_iload_n 2 C dJ4_append_cf468_1 rfl rfl ?_
  refine y_callSU (As := [_]) 5 1 0 0 C suw_J4_50 (j_J5_append_3fe6f (ms := ms) hg hd hx ⟨z1, z2, by omega, by omega⟩ hf) dJ4_append_cf468_2 rfl rfl rfl rfl hg ⟨Nat.le_of_ble_eq_true rfl, Nat.le_of_ble_eq_true rfl⟩ (Nat.le_of_ble_eq_true rfl) ⟨by omega, by omega⟩ (fun v G' hq => ?_)
  obtain ⟨rfl, d1, N1, g1, w1, w2, w3, w4, w5, w6, w7⟩ := hq
  refine y_as rfl rfl rfl ?_
  refine y_pop 6 C dJ4_append_cf468_5 rfl rfl ?_
  refine y_aload_n 7 C dJ4_append_cf468_6 rfl rfl ?_
  exact y_aret (r := some _) C dJ4_append_cf468_7 rfl ⟨rfl, d1, N1, g1, w1, w2, w3, w4, w5, w6, fun j hj => by (have hj0 : j = 0 := by (have : j < 1 := hj; omega)); subst hj0; exact w7⟩
set_option maxHeartbeats 4000000 in
set_option maxRecDepth 100000 in
theorem j_J5_init_d00df {E : EV} {l : Launch} {G : FT} {b ms : Nat} (hg : G b = some (.inr (1, [.null, .int 0, .int 0, .int 0]))) (hms : 16 ≤ ms) : MR E l yJ5_init_d00df cJ5_init_d00df 2 none 1 12 1 ms [.ref b, .int (i32 16)] G (fun v G' => v = none ∧ ∃ q, G q = none ∧ q ≠ b ∧ ∀ x, G' x = if x = b then some (lB q 0) else if x = q then some (aB E 16 (fun _ => 0)) else G x) := by
  refine mr_of (own := RJ5) (L := [some (.ref b), some (.int (i32 16))]) (by decide +kernel) rfl (Nat.le_of_ble_eq_true rfl) (List.forall_mem_cons.mpr ⟨rfl, (List.forall_mem_cons.mpr ⟨rfl, (fun _ h => absurd h List.not_mem_nil)⟩)⟩) rfl ?_
  intro p e s m args below meth c C hin
  refine y_aload_n 1 C dJ5_init_d00df_0 rfl rfl ?_
  refine y_objInit 4 C (aw_i 518 (by decide +kernel) rfl) ⟨Nat.le_of_ble_eq_true rfl, Nat.le_of_ble_eq_true rfl⟩ dJ5_init_d00df_1 rfl ?_
  refine y_getsC 7 C (aw_i 519 (by decide +kernel) rfl) dJ5_init_d00df_4 rfl ?_
  refine y_if_eq 10 25 C dJ5_init_d00df_7 rfl (by decide) (by first | assumption | omega | exact ⟨by omega, by omega⟩) (fun h7 => ?_) (fun h7 => ?_)
  · skip
    exact absurd h7 (by decide)
  · skip
    refine y_aload_n 11 C dJ5_init_d00df_10 rfl rfl ?_
    refine y_iload_n 12 C dJ5_init_d00df_11 rfl rfl ?_
    refine y_newB (N := 16) (kc0 := 0) (ks0 := 0) 14 C (aw_i 316 (by decide +kernel) rfl) (by omega) dJ5_init_d00df_12 rfl ⟨by omega, by omega⟩ (fun q hq => ?_)
    have hbq : b ≠ q := fun z => by rw [z, hq] at hg; cases hg
    refine y_putf 17 2 C fw_J5_15 ((up_n hbq).trans hg) (Nat.le_of_ble_eq_true rfl) (fits_ref (v := some _)) dJ5_init_d00df_14 rfl rfl ?_
    refine y_aload_n 18 C dJ5_init_d00df_17 rfl rfl ?_
    refine y_iconst 19 C dJ5_init_d00df_18 rfl ?_
    refine y_putfB 22 3 C fw_J5_22 up_s (Nat.le_of_ble_eq_true rfl) (fits_b0 (j := 1) rfl rfl) dJ5_init_d00df_19 rfl (up_up _ _ _ _) ?_
    refine y_goto 38 C dJ5_init_d00df_22 (by decide) ?_
    exact y_ret C dJ5_init_d00df_38 ⟨rfl, q, hq, hbq.symm, fun x => by unfold va_up; rfl⟩
set_option maxHeartbeats 4000000 in
set_option maxRecDepth 100000 in
theorem j_J4_init_da8c8 {E : EV} {l : Launch} {G : FT} {b ms : Nat} (hg : G b = some (.inr (1, [.null, .int 0, .int 0, .int 0]))) (hms : 16 ≤ ms) : MR E l yJ4_init_da8c8 cJ4_init_da8c8 1 none 2 33 1 ms [.ref b] G (fun v G' => v = none ∧ ∃ q, G q = none ∧ q ≠ b ∧ ∀ x, G' x = if x = b then some (lB q 0) else if x = q then some (aB E 16 (fun _ => 0)) else G x) := by
  refine mr_of (own := RJ4) (L := [some (.ref b)]) (by decide +kernel) rfl (Nat.le_of_ble_eq_true rfl) (List.forall_mem_cons.mpr ⟨rfl, (fun _ h => absurd h List.not_mem_nil)⟩) rfl ?_
  intro p e s m args below meth c C hin
  refine y_aload_n 1 C dJ4_init_da8c8_0 rfl rfl ?_
  refine y_bipush 3 C dJ4_init_da8c8_1 rfl (by decide) ?_
  refine y_callI (As := [_]) 6 0 0 C vw_J4_1 iw_J5_init_d00df rfl (j_J5_init_d00df hg hms) dJ4_init_da8c8_3 rfl rfl rfl ⟨Nat.le_of_ble_eq_true rfl, Nat.le_of_ble_eq_true rfl⟩ (Nat.le_of_ble_eq_true rfl) ⟨by omega, by omega⟩ (fun v G' hq => ?_)
  obtain ⟨rfl, q⟩ := hq
  refine y_as rfl rfl rfl ?_
  exact y_ret C dJ4_init_da8c8_6 ⟨rfl, q⟩
set_option maxHeartbeats 4000000 in
set_option maxRecDepth 100000 in
theorem j_J7_checkLength_df160 {E : EV} {l : Launch} {G : FT} {x y : Int} (h : 0 ≤ x ∧ x ≤ y ∧ y ≤ 2147483647) : MR E l yJ7_checkLength_df160 cJ7_checkLength_df160 2 none 0 0 0 0 [.int (i32 x), .int (i32 y)] G (pF none G) := by
  refine mr_of (own := RJ7) (L := [some (.int (i32 x)), some (.int (i32 y))]) (by decide +kernel) rfl (Nat.le_of_ble_eq_true rfl) (List.forall_mem_cons.mpr ⟨rfl, (List.forall_mem_cons.mpr ⟨rfl, (fun _ h => absurd h List.not_mem_nil)⟩)⟩) rfl ?_
  intro p e s m args below meth c C hin
  obtain ⟨h0, h1, h3⟩ := h
  refine y_iload_n 1 C dJ7_checkLength_df160_0 rfl rfl ?_
  refine y_iload_n 2 C dJ7_checkLength_df160_1 rfl rfl ?_
  refine y_icmp_ge 5 37 C dJ7_checkLength_df160_2 rfl (by decide) (by first | assumption | omega | exact ⟨by omega, by omega⟩) (by first | assumption | omega | exact ⟨by omega, by omega⟩) (fun h2 => ?_) (fun h2 => ?_)
  · skip
    exact y_ret C dJ7_checkLength_df160_37 ⟨rfl, rfl⟩
  · skip
    exact absurd h2 (by omega)
set_option maxHeartbeats 4000000 in
set_option maxRecDepth 100000 in
theorem j_J7_copyOfRangeByte_39247 {E : EV} {l : Launch} {G : FT} {d N k ms : Nat} {g : Nat → Int32} (hd : G d = some (aB E N g)) (hk : k ≤ N ∧ N ≤ 5000 ∧ k ≤ ms) (hf : sb_Fit g) : MR E l yJ7_copyOfRangeByte_39247 cJ7_copyOfRangeByte_39247 5 (some (.array .byte)) 1 60 1 ms [.ref d, .int (i32 0), .int (i32 (k : Int))] G (fun v G' => ∃ q : Nat, G q = none ∧ v = some (.ref q) ∧ ∀ x, G' x = if x = q then some (aB E k (fun j => if j < k then g j else 0)) else G x) := by
  refine mr_of (own := RJ7) (L := [some (.ref d), some (.int (i32 0)), some (.int (i32 (k : Int))), none, none]) (by decide +kernel) rfl (Nat.le_of_ble_eq_true rfl) (List.forall_mem_cons.mpr ⟨rfl, (List.forall_mem_cons.mpr ⟨rfl, (List.forall_mem_cons.mpr ⟨rfl, (fun _ h => absurd h List.not_mem_nil)⟩)⟩)⟩) rfl ?_
  intro p e s m args below meth c C hin
  obtain ⟨k1, k2, k3⟩ := hk
  refine y_iload_n 1 C dJ7_copyOfRangeByte_39247_0 rfl rfl ?_
  refine y_iload_n 2 C dJ7_copyOfRangeByte_39247_1 rfl rfl ?_
  refine y_callS (As := [_, _]) 5 _ _ C vw_J7_343 tw_J7_checkLength_df160 (j_J7_checkLength_df160 ⟨by omega, by omega, by omega⟩) dJ7_copyOfRangeByte_39247_2 rfl rfl rfl ⟨Nat.le_of_ble_eq_true rfl, Nat.le_of_ble_eq_true rfl⟩ (Nat.le_of_ble_eq_true rfl) ⟨Nat.le_refl _, Nat.le_refl _⟩ (fun v G' hq => ?_)
  obtain ⟨rfl, rfl⟩ := hq
  refine y_as rfl rfl rfl ?_
  refine y_iload_n 6 C dJ7_copyOfRangeByte_39247_5 rfl rfl ?_
  refine y_iload_n 7 C dJ7_copyOfRangeByte_39247_6 rfl rfl ?_
  refine y_isub 8 C dJ7_copyOfRangeByte_39247_7 rfl ?_
  refine y_istore_n 9 C dJ7_copyOfRangeByte_39247_8 rfl rfl rfl ?_
  refine y_as rfl rfl rfl ?_
  refine y_iload_n 10 C dJ7_copyOfRangeByte_39247_9 rfl rfl ?_
  refine y_as (st' := [.int (i32 (k : Int))]) rfl rfl (by rw [Int.sub_zero]; rfl) ?_
  refine y_newB (kc0 := 0) (ks0 := 0) 12 C (aw_i 316 (by decide +kernel) rfl) (by omega) dJ7_copyOfRangeByte_39247_10 rfl ⟨by omega, by omega⟩ (fun q hq => ?_)
  have hdq : d ≠ q := fun z => by rw [z, hq] at hd; cases hd
  have hd1 := (up_n (e := some (aB E k (fun _ => 0))) hdq).trans hd
  refine y_astore 14 C dJ7_copyOfRangeByte_39247_12 rfl rfl rfl ?_
  refine y_aload_n 15 C dJ7_copyOfRangeByte_39247_14 rfl rfl ?_
  refine y_iload_n 16 C dJ7_copyOfRangeByte_39247_15 rfl rfl ?_
  refine y_aload 18 C dJ7_copyOfRangeByte_39247_16 rfl rfl ?_
  refine y_iconst 19 C dJ7_copyOfRangeByte_39247_18 rfl ?_
  refine y_aload_n 20 C dJ7_copyOfRangeByte_39247_19 rfl rfl ?_
  refine y_alen 21 2 C hd1 rfl dJ7_copyOfRangeByte_39247_20 rfl ?_
  refine y_iload_n 22 C dJ7_copyOfRangeByte_39247_21 rfl rfl ?_
  refine y_isub 23 C dJ7_copyOfRangeByte_39247_22 rfl ?_
  refine y_iload_n 24 C dJ7_copyOfRangeByte_39247_23 rfl rfl ?_
  refine y_mmin (x := (N : Int) - 0) (y := (k : Int) - 0) 27 C mw_J7_304 ⟨Nat.le_of_ble_eq_true rfl, Nat.le_of_ble_eq_true rfl⟩ ⟨by omega, by omega⟩ ⟨by omega, by omega⟩ dJ7_copyOfRangeByte_39247_24 rfl ?_
  refine y_copyB (sp := 0) (dp := 0) (k0 := k) 30 C ys_J7150 hd1 up_s ⟨rfl, rfl, by show min ((N : Int) - 0) ((k : Int) - 0) = _; omega⟩ ⟨by omega, by omega, by omega, by omega⟩ (fun i hi => hf _) ⟨Nat.le_of_ble_eq_true rfl, Nat.le_of_ble_eq_true rfl⟩ dJ7_copyOfRangeByte_39247_27 rfl (up_up _ _ _ _) ?_
  refine y_aload 32 C dJ7_copyOfRangeByte_39247_30 rfl rfl ?_
  exact y_aret (r := some _) C dJ7_copyOfRangeByte_39247_32 rfl ⟨q, hq, rfl, fun x => by (unfold va_up; exact (if hx : x = q then (by rw [if_pos hx, if_pos hx, show va_cpy g (fun _ => 0) 0 0 k = fun j => if j < k then g j else 0 from funext fun j => by (unfold va_cpy; exact (if hj : j < k then (by rw [if_pos ⟨by omega, by omega⟩, if_pos hj, Nat.zero_add, Nat.sub_zero]) else (by rw [if_neg (by omega), if_neg hj])))]) else (by rw [if_neg hx, if_neg hx])))⟩
set_option maxHeartbeats 4000000 in
set_option maxRecDepth 100000 in
theorem j_J7_copyOfRange_39247 {E : EV} {l : Launch} {G : FT} {d N k ms : Nat} {g : Nat → Int32} (hd : G d = some (aB E N g)) (hk : k ≤ N ∧ N ≤ 5000 ∧ k ≤ ms) (hf : sb_Fit g) : MR E l yJ7_copyOfRange_39247 cJ7_copyOfRange_39247 3 (some (.array .byte)) 2 84 1 ms [.ref d, .int (i32 0), .int (i32 (k : Int))] G (fun v G' => ∃ q : Nat, G q = none ∧ v = some (.ref q) ∧ ∀ x, G' x = if x = q then some (aB E k (fun j => if j < k then g j else 0)) else G x) := by
  refine mr_of (own := RJ7) (L := [some (.ref d), some (.int (i32 0)), some (.int (i32 (k : Int)))]) (by decide +kernel) rfl (Nat.le_of_ble_eq_true rfl) (List.forall_mem_cons.mpr ⟨rfl, (List.forall_mem_cons.mpr ⟨rfl, (List.forall_mem_cons.mpr ⟨rfl, (fun _ h => absurd h List.not_mem_nil)⟩)⟩)⟩) rfl ?_
  intro p e s m args below meth c C hin
  refine y_iload_n 1 C dJ7_copyOfRange_39247_0 rfl rfl ?_
  refine y_if_ne 4 10 C dJ7_copyOfRange_39247_1 rfl (by decide) (by first | assumption | omega | exact ⟨by omega, by omega⟩) (fun h1 => ?_) (fun h1 => ?_)
  · skip
    exact absurd rfl h1
  · skip
    refine y_iload_n 5 C dJ7_copyOfRange_39247_4 rfl rfl ?_
    refine y_aload_n 6 C dJ7_copyOfRange_39247_5 rfl rfl ?_
    refine y_alen 7 2 C hd rfl dJ7_copyOfRange_39247_6 rfl ?_
    refine y_icmp_eq 10 17 C dJ7_copyOfRange_39247_7 rfl (by decide) (by first | assumption | omega | exact ⟨by omega, by omega⟩) (by first | assumption | omega | exact ⟨by omega, by omega⟩) (fun h7 => ?_) (fun h7 => ?_)
    · skip
      refine y_aload_n 18 C dJ7_copyOfRange_39247_17 rfl rfl ?_
      have hkN : k = N := by omega
      subst hkN
      refine y_clone (g' := fun j => if j < k then g j else 0) (kc0 := 0) (ks0 := 0) 21 (fun j hj => if_pos hj) C (aw_i 567 (by decide +kernel) rfl) (aw_i 568 (by decide +kernel) rfl) (aw_i 569 (by decide +kernel) rfl) (aw_i 570 (by decide +kernel) rfl) (aw_i 571 (by decide +kernel) rfl) (nw_i 572 (by decide +kernel) rfl) hd (fun j hj => hf j) ⟨Nat.le_of_ble_eq_true rfl, Nat.le_of_ble_eq_true rfl⟩ ⟨by omega, by omega⟩ dJ7_copyOfRange_39247_18 rfl (fun q hq => ?_)
      refine y_castB 24 C (aw_i 573 (by decide +kernel) rfl) up_s dJ7_copyOfRange_39247_21 rfl ?_
      exact y_aret (r := some _) C dJ7_copyOfRange_39247_24 rfl ⟨q, hq, rfl, fun x => by unfold va_up; rfl⟩
    · skip
      refine y_aload_n 11 C dJ7_copyOfRange_39247_10 rfl rfl ?_
      refine y_iload_n 12 C dJ7_copyOfRange_39247_11 rfl rfl ?_
      refine y_iload_n 13 C dJ7_copyOfRange_39247_12 rfl rfl ?_
      refine y_callS (As := [_, _, _]) 16 0 0 C vw_J7_339 tw_J7_copyOfRangeByte_39247 (j_J7_copyOfRangeByte_39247 hd hk hf) dJ7_copyOfRange_39247_13 rfl rfl rfl ⟨Nat.le_of_ble_eq_true rfl, Nat.le_of_ble_eq_true rfl⟩ (Nat.le_of_ble_eq_true rfl) ⟨by omega, by omega⟩ (fun v G' hq => ?_)
      obtain ⟨q, q1, rfl, q2⟩ := hq
      exact y_aret (r := some _) C dJ7_copyOfRange_39247_16 rfl ⟨q, q1, rfl, q2⟩
set_option maxHeartbeats 4000000 in
set_option maxRecDepth 100000 in
theorem j_J5_getValue_6d5f1 {E : EV} {l : Launch} {G : FT} {b d : Nat} {n : Int} (hg : G b = some (lB d n)) : MR E l yJ5_getValue_6d5f1 cJ5_getValue_6d5f1 1 (some (.array .byte)) 0 0 0 0 [.ref b] G (pF (some (.ref d)) G) := by
  refine mr_of (own := RJ5) (L := [some (.ref b)]) (by decide +kernel) rfl (Nat.le_of_ble_eq_true rfl) (List.forall_mem_cons.mpr ⟨rfl, (fun _ h => absurd h List.not_mem_nil)⟩) rfl ?_
  intro p e s m args below meth c C hin
  refine y_aload_n 1 C dJ5_getValue_6d5f1_0 rfl rfl ?_
  refine y_getf 4 C fr_J5_15 hg rfl dJ5_getValue_6d5f1_1 rfl ?_
  exact y_aret (r := some _) C dJ5_getValue_6d5f1_4 rfl ⟨rfl, rfl⟩
set_option maxHeartbeats 4000000 in
set_option maxRecDepth 100000 in
theorem j_J5_length_8abf5 {E : EV} {l : Launch} {G : FT} {b d : Nat} {n : Int} (hg : G b = some (lB d n)) : MR E l yJ5_length_8abf5 cJ5_length_8abf5 1 (some .int) 0 0 0 0 [.ref b] G (pF (some (.int (i32 n))) G) := by
  refine mr_of (own := RJ5) (L := [some (.ref b)]) (by decide +kernel) rfl (Nat.le_of_ble_eq_true rfl) (List.forall_mem_cons.mpr ⟨rfl, (fun _ h => absurd h List.not_mem_nil)⟩) rfl ?_
  intro p e s m args below meth c C hin
  refine y_aload_n 1 C dJ5_length_8abf5_0 rfl rfl ?_
  refine y_getf 4 C fr_J5_79 hg rfl dJ5_length_8abf5_1 rfl ?_
  exact y_iret C dJ5_length_8abf5_4 rfl ⟨rfl, rfl⟩
set_option maxHeartbeats 4000000 in
set_option maxRecDepth 100000 in
theorem j_J4_length_8abf5 {E : EV} {l : Launch} {G : FT} {b d : Nat} {n : Int} (hg : G b = some (lB d n)) : MR E l yJ4_length_8abf5 cJ4_length_8abf5 1 (some .int) 1 20 0 0 [.ref b] G (pF (some (.int (i32 n))) G) := by
  refine mr_of (own := RJ4) (L := [some (.ref b)]) (by decide +kernel) rfl (Nat.le_of_ble_eq_true rfl) (List.forall_mem_cons.mpr ⟨rfl, (fun _ h => absurd h List.not_mem_nil)⟩) rfl ?_
  intro p e s m args below meth c C hin
  refine y_aload_n 1 C dJ4_length_8abf5_0 rfl rfl ?_
  refine y_callSU (As := []) 4 1 _ _ C suw_J4_343 (j_J5_length_8abf5 hg) dJ4_length_8abf5_1 rfl rfl rfl rfl hg ⟨Nat.le_of_ble_eq_true rfl, Nat.le_of_ble_eq_true rfl⟩ (Nat.le_of_ble_eq_true rfl) ⟨Nat.le_refl _, Nat.le_refl _⟩ (fun v G' hq => ?_)
  obtain ⟨rfl, rfl⟩ := hq
  refine y_as rfl rfl rfl ?_
  exact y_iret C dJ4_length_8abf5_4 rfl ⟨rfl, rfl⟩
set_option maxHeartbeats 4000000 in
set_option maxRecDepth 100000 in
theorem j_J0_init_db425 {E : EV} {l : Launch} {G : FT} {a b d N n ms : Nat} {g : Nat → Int32} (hg : G b = some (lB d (n : Int))) (hd : G d = some (aB E N g)) (ha : G a = some (.inr (0, [.null, .int 0, .int 0, .int 0]))) (hz : n ≤ N ∧ N ≤ 5000 ∧ n ≤ ms) (hf : sb_Fit g) : MR E l yJ0_init_db425 cJ0_init_db425 5 none 3 106 1 ms [.ref a, .ref b, va_rf none] G (fun v G' => v = none ∧ ∃ q : Nat, G q = none ∧ q ≠ a ∧ ∀ x, G' x = if x = a then some (lS q 0 0) else if x = q then some (aB E n (fun j => if j < n then g j else 0)) else G x) := by
  refine mr_of (own := RJ0) (L := [some (.ref a), some (.ref b), some (va_rf none), none, none]) (by decide +kernel) rfl (Nat.le_of_ble_eq_true rfl) (List.forall_mem_cons.mpr ⟨rfl, (List.forall_mem_cons.mpr ⟨rfl, (List.forall_mem_cons.mpr ⟨rfl, (fun _ h => absurd h List.not_mem_nil)⟩)⟩)⟩) rfl ?_
  intro p e s m args below meth c C hin
  have hab : a ≠ b := fun z => by rw [z, hg] at ha; cases ha
  have had : a ≠ d := fun z => by rw [z, hd] at ha; cases ha
  have hb1 := (up_n (e := some (.inr (0, [.null, .int (i32 0), .int 0, .int 0]))) hab.symm).trans hg
  have hd1 := (up_n (e := some (.inr (0, [.null, .int (i32 0), .int 0, .int 0]))) had.symm).trans hd
  refine y_aload_n 1 C dJ0_init_db425_0 rfl rfl ?_
  refine y_objInit 4 C (aw_i 710 (by decide +kernel) rfl) ⟨Nat.le_of_ble_eq_true rfl, Nat.le_of_ble_eq_true rfl⟩ dJ0_init_db425_1 rfl ?_
  refine y_aload_n 5 C dJ0_init_db425_4 rfl rfl ?_
  refine y_callU (As := []) 8 1 _ _ C uw_J0_552 (j_J5_getValue_6d5f1 hg) dJ0_init_db425_5 rfl rfl rfl rfl hg ⟨Nat.le_of_ble_eq_true rfl, Nat.le_of_ble_eq_true rfl⟩ (Nat.le_of_ble_eq_true rfl) ⟨Nat.le_refl _, Nat.le_refl _⟩ (fun v G' hq => ?_)
  obtain ⟨rfl, rfl⟩ := hq
  refine y_as rfl rfl rfl ?_
  refine y_astore_n 9 C dJ0_init_db425_8 rfl rfl rfl ?_
  refine y_aload_n 10 C dJ0_init_db425_9 rfl rfl ?_
  refine y_callO (As := []) 13 1 _ _ C ow_J0_549 (j_J4_length_8abf5 hg) dJ0_init_db425_10 rfl rfl rfl rfl hg ⟨Nat.le_of_ble_eq_true rfl, Nat.le_of_ble_eq_true rfl⟩ (Nat.le_of_ble_eq_true rfl) ⟨Nat.le_refl _, Nat.le_refl _⟩ (fun v G' hq => ?_)
  obtain ⟨rfl, rfl⟩ := hq
  refine y_as rfl rfl rfl ?_
  refine y_istore 15 C dJ0_init_db425_13 rfl rfl rfl ?_
  refine y_aload_n 16 C dJ0_init_db425_15 rfl rfl ?_
  refine y_callU (As := []) 19 1 _ _ C uw_J0_1047 (j_J5_isLatin1_aae02 hg) dJ0_init_db425_16 rfl rfl rfl rfl hg ⟨Nat.le_of_ble_eq_true rfl, Nat.le_of_ble_eq_true rfl⟩ (Nat.le_of_ble_eq_true rfl) ⟨Nat.le_refl _, Nat.le_refl _⟩ (fun v G' hq => ?_)
  obtain ⟨rfl, rfl⟩ := hq
  refine y_as rfl rfl rfl ?_
  refine y_if_eq 22 41 C dJ0_init_db425_19 rfl (by decide) (by first | assumption | omega | exact ⟨by omega, by omega⟩) (fun h19 => ?_) (fun h19 => ?_)
  · skip
    exact absurd h19 (by decide)
  · skip
    refine y_aload_n 23 C dJ0_init_db425_22 rfl rfl ?_
    refine y_iconst 24 C dJ0_init_db425_23 rfl ?_
    refine y_putFB (G' := va_up G a (some (.inr (0, [.null, .int (i32 0), .int 0, .int 0])))) 27 3 C fw_J0_15 hin ha (Nat.le_of_ble_eq_true rfl) (fits_b0 (j := 1) rfl rfl) dJ0_init_db425_24 rfl rfl ?_
    refine y_aload_n 28 C dJ0_init_db425_27 rfl rfl ?_
    refine y_aload_n 29 C dJ0_init_db425_28 rfl rfl ?_
    refine y_iconst 30 C dJ0_init_db425_29 rfl ?_
    refine y_iload 32 C dJ0_init_db425_30 rfl rfl ?_
    refine y_callS (As := [_, _, _]) 35 0 0 C vw_J0_54 tw_J7_copyOfRange_39247 (j_J7_copyOfRange_39247 hd1 ⟨hz.1, hz.2.1, hz.2.2⟩ hf) dJ0_init_db425_32 rfl rfl rfl ⟨Nat.le_of_ble_eq_true rfl, Nat.le_of_ble_eq_true rfl⟩ (Nat.le_of_ble_eq_true rfl) ⟨by omega, by omega⟩ (fun v G' hq => ?_)
    obtain ⟨q, q1, rfl, q2⟩ := hq
    have haq : a ≠ q := fun z => by rw [z, up_s] at q1; cases q1
    refine y_as rfl rfl rfl ?_
    refine y_putF 38 2 C fw_J0_9 hin ((q2 a).trans ((if_neg haq).trans up_s)) (Nat.le_of_ble_eq_true rfl) (fits_ref (v := some _)) dJ0_init_db425_35 rfl rfl ?_
    refine y_goto 97 C dJ0_init_db425_38 (by decide) ?_
    exact y_ret C dJ0_init_db425_97 ⟨rfl, q, (up_n haq.symm).symm.trans q1, haq.symm, fun x => by (exact (if hx : x = a then (by (subst hx; rw [up_s, if_pos rfl]; rfl)) else (by (rw [up_n hx, q2, if_neg hx]; exact (if hy : x = q then (by rw [if_pos hy, if_pos hy]) else (by rw [if_neg hy, if_neg hy, up_n hx]))))))⟩
set_option maxHeartbeats 4000000 in
set_option maxRecDepth 100000 in
theorem j_J0_init_81219 {E : EV} {l : Launch} {G : FT} {a b d N n ms : Nat} {g : Nat → Int32} (hg : G b = some (lB d (n : Int))) (hd : G d = some (aB E N g)) (ha : G a = some (.inr (0, [.null, .int 0, .int 0, .int 0]))) (hz : n ≤ N ∧ N ≤ 5000 ∧ n ≤ ms) (hf : sb_Fit g) : MR E l yJ0_init_81219 cJ0_init_81219 2 none 4 130 1 ms [.ref a, .ref b] G (fun v G' => v = none ∧ ∃ q : Nat, G q = none ∧ q ≠ a ∧ ∀ x, G' x = if x = a then some (lS q 0 0) else if x = q then some (aB E n (fun j => if j < n then g j else 0)) else G x) := by
  refine mr_of (own := RJ0) (L := [some (.ref a), some (.ref b)]) (by decide +kernel) rfl (Nat.le_of_ble_eq_true rfl) (List.forall_mem_cons.mpr ⟨rfl, (List.forall_mem_cons.mpr ⟨rfl, (fun _ h => absurd h List.not_mem_nil)⟩)⟩) rfl ?_
  intro p e s m args below meth c C hin
  refine y_aload_n 1 C dJ0_init_81219_0 rfl rfl ?_
  refine y_aload_n 2 C dJ0_init_81219_1 rfl rfl ?_
  refine y_null 3 C dJ0_init_81219_2 rfl ?_
  refine y_callI (As := [_, _]) 6 0 0 C vw_J0_489 iw_J0_init_db425 rfl (j_J0_init_db425 hg hd ha hz hf) dJ0_init_81219_3 rfl rfl rfl ⟨Nat.le_of_ble_eq_true rfl, Nat.le_of_ble_eq_true rfl⟩ (Nat.le_of_ble_eq_true rfl) ⟨by omega, by omega⟩ (fun v G' hq => ?_)
  obtain ⟨rfl, q⟩ := hq
  refine y_as rfl rfl rfl ?_
  exact y_ret C dJ0_init_81219_6 ⟨rfl, q⟩
set_option maxHeartbeats 4000000 in
set_option maxRecDepth 100000 in
theorem j_J4_toString_0e30d {E : EV} {l : Launch} {G : FT} {b d N n ms : Nat} {g : Nat → Int32} (hg : G b = some (lB d (n : Int))) (hd : G d = some (aB E N g)) (hz : n ≤ N ∧ N ≤ 5000 ∧ n ≤ ms) (hf : sb_Fit g) : MR E l yJ4_toString_0e30d cJ4_toString_0e30d 1 (some (.object "java/lang/String")) 5 151 2 (ms + 4) [.ref b] G (fun v G' => ∃ a q : Nat, G a = none ∧ G q = none ∧ q ≠ a ∧ v = some (.ref a) ∧ ∀ x, G' x = if x = a then some (lS q 0 0) else if x = q then some (aB E n (fun j => if j < n then g j else 0)) else G x) := by
  refine mr_of (own := RJ4) (L := [some (.ref b)]) (by decide +kernel) rfl (Nat.le_of_ble_eq_true rfl) (List.forall_mem_cons.mpr ⟨rfl, (fun _ h => absurd h List.not_mem_nil)⟩) rfl ?_
  intro p e s m args below meth c C hin
  refine y_new (kc0 := 1) (ks0 := ms) 3 C nwd_J4_18 dJ4_toString_0e30d_0 rfl ⟨by omega, by omega⟩ (fun a ha => ?_)
  have hba : b ≠ a := fun z => by rw [z, ha] at hg; cases hg
  have hda : d ≠ a := fun z => by rw [z, ha] at hd; cases hd
  refine y_dup 4 C dJ4_toString_0e30d_3 rfl rfl ?_
  refine y_aload_n 5 C dJ4_toString_0e30d_4 rfl rfl ?_
  refine y_callI (As := [_]) 8 0 0 C vw_J4_137 iw_J0_init_81219 rfl (j_J0_init_81219 ((up_n hba).trans hg) ((up_n hda).trans hd) up_s hz hf) dJ4_toString_0e30d_5 rfl rfl rfl ⟨Nat.le_of_ble_eq_true rfl, Nat.le_of_ble_eq_true rfl⟩ (Nat.le_of_ble_eq_true rfl) ⟨by omega, by omega⟩ (fun v G' hq => ?_)
  obtain ⟨rfl, q, q1, q2, q3⟩ := hq
  refine y_as rfl rfl rfl ?_
  exact y_aret (r := some _) C dJ4_toString_0e30d_8 rfl ⟨a, q, ha, (up_n q2).symm.trans q1, q2, rfl, fun x => by (rw [q3]; exact (if hx : x = a then (by rw [if_pos hx, if_pos hx]) else (by (rw [if_neg hx, if_neg hx, up_n hx]))))⟩
set_option maxHeartbeats 4000000 in
set_option maxRecDepth 100000 in
theorem j_J0_isLatin1_aae02 {E : EV} {l : Launch} {G : FT} {a d : Nat} {h1 h2 : Int32} (hg : G a = some (lS d h1 h2)) : MR E l yJ0_isLatin1_aae02 cJ0_isLatin1_aae02 1 (some .boolean) 0 0 0 0 [.ref a] G (pF (some (.int (i32 1))) G) := by
  refine mr_of (own := RJ0) (L := [some (.ref a)]) (by decide +kernel) rfl (Nat.le_of_ble_eq_true rfl) (List.forall_mem_cons.mpr ⟨rfl, (fun _ h => absurd h List.not_mem_nil)⟩) rfl ?_
  intro p e s m args below meth c C hin
  refine y_getsC 3 C (aw_i 613 (by decide +kernel) rfl) dJ0_isLatin1_aae02_0 rfl ?_
  refine y_if_eq 6 17 C dJ0_isLatin1_aae02_3 rfl (by decide) (by first | assumption | omega | exact ⟨by omega, by omega⟩) (fun h3 => ?_) (fun h3 => ?_)
  · skip
    exact absurd h3 (by decide)
  · skip
    refine y_aload_n 7 C dJ0_isLatin1_aae02_6 rfl rfl ?_
    refine y_getf 10 C fr_J0_15 hg rfl dJ0_isLatin1_aae02_7 rfl ?_
    refine y_if_ne 13 17 C dJ0_isLatin1_aae02_10 rfl (by decide) (by first | assumption | omega | exact ⟨by omega, by omega⟩) (fun h10 => ?_) (fun h10 => ?_)
    · skip
      exact absurd rfl h10
    · skip
      refine y_iconst 14 C dJ0_isLatin1_aae02_13 rfl ?_
      refine y_goto 18 C dJ0_isLatin1_aae02_14 (by decide) ?_
      exact y_iret C dJ0_isLatin1_aae02_18 rfl ⟨rfl, rfl⟩
set_option maxHeartbeats 4000000 in
set_option maxRecDepth 100000 in
theorem j_J0_checkIndex_df160 {E : EV} {l : Launch} {G : FT} {x y : Int} (h : 0 ≤ x ∧ x < y ∧ y ≤ 2147483647) : MR E l yJ0_checkIndex_df160 cJ0_checkIndex_df160 2 none 1 22 0 0 [.int (i32 x), .int (i32 y)] G (pF none G) := by
  refine mr_of (own := RJ0) (L := [some (.int (i32 x)), some (.int (i32 y))]) (by decide +kernel) rfl (Nat.le_of_ble_eq_true rfl) (List.forall_mem_cons.mpr ⟨rfl, (List.forall_mem_cons.mpr ⟨rfl, (fun _ h => absurd h List.not_mem_nil)⟩)⟩) rfl ?_
  intro p e s m args below meth c C hin
  refine y_iload_n 1 C dJ0_checkIndex_df160_0 rfl rfl ?_
  refine y_iload_n 2 C dJ0_checkIndex_df160_1 rfl rfl ?_
  refine y_getsF 5 C (aw_i 591 (by decide +kernel) rfl) dJ0_checkIndex_df160_2 rfl (fun r => ?_)
  refine y_callS (As := [_, _, _]) 8 _ _ C vw_J0_1059 tw_J3_checkIndex_8e157 (j_J3_checkIndex_8e157r h) dJ0_checkIndex_df160_5 rfl rfl rfl ⟨Nat.le_of_ble_eq_true rfl, Nat.le_of_ble_eq_true rfl⟩ (Nat.le_of_ble_eq_true rfl) ⟨Nat.le_refl _, Nat.le_refl _⟩ (fun v G' hq => ?_)
  obtain ⟨rfl, rfl⟩ := hq
  refine y_as rfl rfl rfl ?_
  refine y_pop 9 C dJ0_checkIndex_df160_8 rfl rfl ?_
  exact y_ret C dJ0_checkIndex_df160_9 ⟨rfl, rfl⟩
set_option maxHeartbeats 4000000 in
set_option maxRecDepth 100000 in
theorem j_J1_charAt_3b067 {E : EV} {l : Launch} {G : FT} {d N i : Nat} {g : Nat → Int32} {c0 : Nat} (hd : G d = some (aB E N g)) (hi : i < N ∧ N ≤ 5000) (hc : g i = sb_b c0 ∧ c0 < 128) : MR E l yJ1_charAt_3b067 cJ1_charAt_3b067 2 (some .char) 2 43 0 0 [.ref d, .int (i32 (i : Int))] G (pF (some (.int (i32 (c0 : Int)))) G) := by
  refine mr_of (own := RJ1) (L := [some (.ref d), some (.int (i32 (i : Int)))]) (by decide +kernel) rfl (Nat.le_of_ble_eq_true rfl) (List.forall_mem_cons.mpr ⟨rfl, (List.forall_mem_cons.mpr ⟨rfl, (fun _ h => absurd h List.not_mem_nil)⟩)⟩) rfl ?_
  intro p e s m args below meth c C hin
  obtain ⟨i1, i2⟩ := hi
  obtain ⟨c1, c2⟩ := hc
  refine y_iload_n 1 C dJ1_charAt_3b067_0 rfl rfl ?_
  refine y_aload_n 2 C dJ1_charAt_3b067_1 rfl rfl ?_
  refine y_alen 3 2 C hd rfl dJ1_charAt_3b067_2 rfl ?_
  refine y_callS (As := [_, _]) 6 _ _ C vw_J1_9 tw_J0_checkIndex_df160 (j_J0_checkIndex_df160 ⟨by omega, by omega, by omega⟩) dJ1_charAt_3b067_3 rfl rfl rfl ⟨Nat.le_of_ble_eq_true rfl, Nat.le_of_ble_eq_true rfl⟩ (Nat.le_of_ble_eq_true rfl) ⟨Nat.le_refl _, Nat.le_refl _⟩ (fun v G' hq => ?_)
  obtain ⟨rfl, rfl⟩ := hq
  refine y_as rfl rfl rfl ?_
  refine y_aload_n 7 C dJ1_charAt_3b067_6 rfl rfl ?_
  refine y_iload_n 8 C dJ1_charAt_3b067_7 rfl rfl ?_
  refine y_bald 9 C hd ⟨by omega, by omega, by omega⟩ dJ1_charAt_3b067_8 rfl ?_
  refine y_as (st' := [.int (i32 (sb_b c0).toInt)]) rfl rfl (by rw [i32_self, ← c1]; rfl) ?_
  refine y_sipush 12 C dJ1_charAt_3b067_9 rfl (by decide) ?_
  refine y_iand 13 C dJ1_charAt_3b067_12 rfl ?_
  refine y_as (st' := [.int (i32 (c0 : Int))]) rfl rfl (by rw [← i32_and, i32_self, ← i32_nI, ← (sb_byte c0 (by omega)).1]; rfl) ?_
  refine y_i2c 14 C dJ1_charAt_3b067_13 rfl ⟨by omega, by omega⟩ ?_
  exact y_iret C dJ1_charAt_3b067_14 (nar_c ⟨by omega, by omega⟩) ⟨rfl, rfl⟩
set_option maxHeartbeats 4000000 in
set_option maxRecDepth 100000 in
theorem j_J0_charAt_5068e {E : EV} {l : Launch} {G : FT} {a d N i : Nat} {g : Nat → Int32} {c0 : Nat} {h1 h2 : Int32} (hg : G a = some (lS d h1 h2)) (hd : G d = some (aB E N g)) (hi : i < N ∧ N ≤ 5000) (hc : g i = sb_b c0 ∧ c0 < 128) : MR E l yJ0_charAt_5068e cJ0_charAt_5068e 2 (some .char) 3 64 0 0 [.ref a, .int (i32 (i : Int))] G (pF (some (.int (i32 (c0 : Int)))) G) := by
  refine mr_of (own := RJ0) (L := [some (.ref a), some (.int (i32 (i : Int)))]) (by decide +kernel) rfl (Nat.le_of_ble_eq_true rfl) (List.forall_mem_cons.mpr ⟨rfl, (List.forall_mem_cons.mpr ⟨rfl, (fun _ h => absurd h List.not_mem_nil)⟩)⟩) rfl ?_
  intro p e s m args below meth c C hin
  refine y_aload_n 1 C dJ0_charAt_5068e_0 rfl rfl ?_
  refine y_callV (As := []) 4 0 _ _ C vw_J0_492 iw_J0_isLatin1_aae02 sw_J0_isLatin1_aae02 (j_J0_isLatin1_aae02 hg) dJ0_charAt_5068e_1 rfl rfl rfl rfl rfl hg ⟨Nat.le_of_ble_eq_true rfl, Nat.le_of_ble_eq_true rfl⟩ (Nat.le_of_ble_eq_true rfl) ⟨Nat.le_refl _, Nat.le_refl _⟩ (fun v G' hq => ?_)
  obtain ⟨rfl, rfl⟩ := hq
  refine y_as rfl rfl rfl ?_
  refine y_if_eq 7 16 C dJ0_charAt_5068e_4 rfl (by decide) (by first | assumption | omega | exact ⟨by omega, by omega⟩) (fun h4 => ?_) (fun h4 => ?_)
  · skip
    exact absurd h4 (by decide)
  · skip
    refine y_aload_n 8 C dJ0_charAt_5068e_7 rfl rfl ?_
    refine y_getf 11 C fr_J0_9 hg rfl dJ0_charAt_5068e_8 rfl ?_
    refine y_iload_n 12 C dJ0_charAt_5068e_11 rfl rfl ?_
    refine y_callS (As := [_, _]) 15 _ _ C vw_J0_495 tw_J1_charAt_3b067 (j_J1_charAt_3b067 hd hi hc) dJ0_charAt_5068e_12 rfl rfl rfl ⟨Nat.le_of_ble_eq_true rfl, Nat.le_of_ble_eq_true rfl⟩ (Nat.le_of_ble_eq_true rfl) ⟨Nat.le_refl _, Nat.le_refl _⟩ (fun v G' hq => ?_)
    obtain ⟨rfl, rfl⟩ := hq
    refine y_as rfl rfl rfl ?_
    exact y_iret C dJ0_charAt_5068e_15 (nar_c (by have := hc.2; omega)) ⟨rfl, rfl⟩
