/-! rows laid by program (wip/tools/gen_raw.py) -/
theorem up1 {f : FT} {a x : Nat} {e : Option va_E} : va_up f a e x = if x = a then e else f x := by
  by_cases h : x = a
  · rw [if_pos h, h, up_s]
  · rw [if_neg h, up_n h]
theorem up2 {f : FT} {a d x : Nat} {e1 e2 : Option va_E} (h : a ≠ d) : va_up (va_up f a e1) d e2 x = if x = a then e1 else if x = d then e2 else f x := by
  by_cases hx : x = a
  · rw [if_pos hx, up_n (by rw [hx]; exact h), hx, up_s]
  · rw [if_neg hx]
    by_cases hy : x = d
    · rw [if_pos hy, hy, up_s]
    · rw [if_neg hy, up_n hy, up_n hx]
theorem up_up (f : FT) (a : Nat) (e1 e2 : Option va_E) : va_up (va_up f a e1) a e2 = va_up f a e2 := by
  funext x
  unfold va_up
  split <;> rfl
/-- a list's own cell; what may stand in a row of objects -/
abbrev lL (m : Int) (d : Nat) (n : Int) : va_E := .inr (2, [.int (i32 m), .ref d, .int (i32 n)])
def OB (G : FT) (v : Nat) : Prop := ∃ (ci NN : Nat) (Cn : String) (Tn : u_T) (fs : List Value), G v = some (.inr (ci, fs)) ∧ CL[ci]? = some (Cn, Tn, NN) ∧ Cond.castable Cn "java/lang/Object" ∈ NW
theorem OB_up {G : FT} {v d : Nat} {e : va_E} (h : OB G v) (hd : v ≠ d) : OB (va_up G d (some e)) v := by
  obtain ⟨ci, NN, Cn, Tn, fs, h1, h2⟩ := h
  exact ⟨ci, NN, Cn, Tn, fs, (up_n hd).trans h1, h2⟩
theorem OB_ne {E : EV} {G : FT} {v d N : Nat} {g : Nat → Option Nat} (h : OB G v) (hd : G d = some (aO E N g)) : v ≠ d := by
  obtain ⟨ci, NN, Cn, Tn, fs, h1, h2⟩ := h
  intro z
  rw [z, hd] at h1
  cases h1
theorem OB_nn {G : FT} {v d : Nat} (h : OB G v) (hd : G d = none) : v ≠ d := by
  obtain ⟨ci, NN, Cn, Tn, fs, h1, h2⟩ := h
  intro z
  rw [z, hd] at h1
  cases h1
theorem fl2_63 : FL2 RJx4a65c 63 (TJx4a65c 0) := ⟨"java/util/ArrayList", aw_i 150 (by decide +kernel) rfl, aw_i 151 (by decide +kernel) rfl⟩
theorem ys_Jx112 : YS RJx4a65c 112 := ⟨aw_i 1176 (by decide +kernel) rfl, aw_i 460 (by decide +kernel) rfl, aw_i 459 (by decide +kernel) rfl, aw_i 109 (by decide +kernel) rfl⟩
theorem ys_J7150 : YS RJ7 150 := ⟨aw_i 458 (by decide +kernel) rfl, aw_i 460 (by decide +kernel) rfl, aw_i 459 (by decide +kernel) rfl, aw_i 109 (by decide +kernel) rfl⟩
theorem mr_mono {E : EV} {l : Launch} {y : MethodName} {cc : ByteArray} {nL : Nat} {ret : Option FieldType} {fr lo mc ms : Nat} {av : List Value} {G : FT} {post post' : Option Value → FT → Prop} (h : MR E l y cc nL ret fr lo mc ms av G post) (hq : ∀ v G', post v G' → post' v G') : MR E l y cc nL ret fr lo mc ms av G post' := by
  unfold MR Met MetFree at h ⊢
  intro p e a1 a2 a3 s m args below b1 b2 b3 b4
  obtain ⟨n, o, c1, c2, c3, ⟨⟨v, G', d1, d2, d3⟩, c5⟩, c6⟩ := h p e a1 a2 a3 s m args below b1 b2 b3 b4
  exact ⟨n, o, c1, c2, c3, ⟨⟨v, G', d1, d2, hq v G' d3⟩, c5⟩, c6⟩
set_option maxHeartbeats 4000000 in
set_option maxRecDepth 100000 in
theorem j_J3_checkIndex_8e157 {E : EV} {l : Launch} {G : FT} {i n : Int} (h : 0 ≤ i ∧ i < n ∧ n ≤ 2147483647) : MR E l yJ3_checkIndex_8e157 cJ3_checkIndex_8e157 3 (some .int) 0 0 0 0 [.int (i32 i), .int (i32 n), va_rf none] G (pF (some (.int (i32 i))) G) := by
  refine mr_of (own := RJ3) (L := [some (.int (i32 i)), some (.int (i32 n)), some (va_rf none)]) (by decide +kernel) rfl (Nat.le_of_ble_eq_true rfl) (List.forall_mem_cons.mpr ⟨rfl, (List.forall_mem_cons.mpr ⟨rfl, (List.forall_mem_cons.mpr ⟨rfl, (fun _ h => absurd h List.not_mem_nil)⟩)⟩)⟩) rfl ?_
  intro p e s m args below meth c C hin
  obtain ⟨h0, h1, h2⟩ := h
  refine y_iload_n 1 C dJ3_checkIndex_8e157_0 rfl rfl ?_
  refine y_if_lt 4 9 C dJ3_checkIndex_8e157_1 rfl (by decide) (by first | assumption | omega | exact ⟨by omega, by omega⟩) (fun h1 => ?_) (fun h1 => ?_)
  · skip
    exact absurd h1 (by omega)
  · skip
    refine y_iload_n 5 C dJ3_checkIndex_8e157_4 rfl rfl ?_
    refine y_iload_n 6 C dJ3_checkIndex_8e157_5 rfl rfl ?_
    refine y_icmp_lt 9 16 C dJ3_checkIndex_8e157_6 rfl (by decide) (by first | assumption | omega | exact ⟨by omega, by omega⟩) (by first | assumption | omega | exact ⟨by omega, by omega⟩) (fun h6 => ?_) (fun h6 => ?_)
    · skip
      refine y_iload_n 17 C dJ3_checkIndex_8e157_16 rfl rfl ?_
      exact y_iret C dJ3_checkIndex_8e157_17 rfl ⟨rfl, rfl⟩
    · skip
      exact absurd h1 (by omega)
set_option maxHeartbeats 4000000 in
set_option maxRecDepth 100000 in
theorem j_J15_checkIndex_7cf53 {E : EV} {l : Launch} {G : FT} {i n : Int} (h : 0 ≤ i ∧ i < n ∧ n ≤ 2147483647) : MR E l yJ15_checkIndex_7cf53 cJ15_checkIndex_7cf53 2 (some .int) 1 22 0 0 [.int (i32 i), .int (i32 n)] G (pF (some (.int (i32 i))) G) := by
  refine mr_of (own := RJ15) (L := [some (.int (i32 i)), some (.int (i32 n))]) (by decide +kernel) rfl (Nat.le_of_ble_eq_true rfl) (List.forall_mem_cons.mpr ⟨rfl, (List.forall_mem_cons.mpr ⟨rfl, (fun _ h => absurd h List.not_mem_nil)⟩)⟩) rfl ?_
  intro p e s m args below meth c C hin
  refine y_iload_n 1 C dJ15_checkIndex_7cf53_0 rfl rfl ?_
  refine y_iload_n 2 C dJ15_checkIndex_7cf53_1 rfl rfl ?_
  refine y_null 3 C dJ15_checkIndex_7cf53_2 rfl ?_
  refine y_callS (As := [_, _, _]) 6 _ _ C vw_J15_105 tw_J3_checkIndex_8e157 (j_J3_checkIndex_8e157 h) dJ15_checkIndex_7cf53_3 rfl rfl rfl ⟨Nat.le_of_ble_eq_true rfl, Nat.le_of_ble_eq_true rfl⟩ (Nat.le_of_ble_eq_true rfl) ⟨Nat.le_refl _, Nat.le_refl _⟩ (fun v G' hq => ?_)
  obtain ⟨rfl, rfl⟩ := hq
  exact y_iret C dJ15_checkIndex_7cf53_6 rfl ⟨rfl, rfl⟩
set_option maxHeartbeats 4000000 in
set_option maxRecDepth 100000 in
theorem j_Jx4a65c_size_8abf5 {E : EV} {l : Launch} {G : FT} {a d : Nat} {m0 n : Int} (hg : G a = some (lL m0 d n)) : MR E l yJx4a65c_size_8abf5 cJx4a65c_size_8abf5 1 (some .int) 0 0 0 0 [.ref a] G (pF (some (.int (i32 n))) G) := by
  refine mr_of (own := RJx4a65c) (L := [some (.ref a)]) (by decide +kernel) rfl (Nat.le_of_ble_eq_true rfl) (List.forall_mem_cons.mpr ⟨rfl, (fun _ h => absurd h List.not_mem_nil)⟩) rfl ?_
  intro p e s m args below meth c C hin
  refine y_aload_n 1 C dJx4a65c_size_8abf5_0 rfl rfl ?_
  refine y_getf 4 C fr_Jx4a65c_48 hg rfl dJx4a65c_size_8abf5_1 rfl ?_
  exact y_iret C dJx4a65c_size_8abf5_4 rfl ⟨rfl, rfl⟩
set_option maxHeartbeats 4000000 in
set_option maxRecDepth 100000 in
theorem j_Jx4a65c_elementData_915e3 {E : EV} {l : Launch} {G : FT} {a d N : Nat} {m0 n i : Int} {g : Nat → Option Nat} (hg : G a = some (lL m0 d n)) (hd : G d = some (aO E N g)) (hi : 0 ≤ i ∧ i < N ∧ N < 2147483648) : MR E l yJx4a65c_elementData_915e3 cJx4a65c_elementData_915e3 2 (some (.object "java/lang/Object")) 0 0 0 0 [.ref a, .int (i32 i)] G (pF (some (va_rf (g i.toNat))) G) := by
  refine mr_of (own := RJx4a65c) (L := [some (.ref a), some (.int (i32 i))]) (by decide +kernel) rfl (Nat.le_of_ble_eq_true rfl) (List.forall_mem_cons.mpr ⟨rfl, (List.forall_mem_cons.mpr ⟨rfl, (fun _ h => absurd h List.not_mem_nil)⟩)⟩) rfl ?_
  intro p e s m args below meth c C hin
  refine y_aload_n 1 C dJx4a65c_elementData_915e3_0 rfl rfl ?_
  refine y_getf 4 C fr_Jx4a65c_9 hg rfl dJx4a65c_elementData_915e3_1 rfl ?_
  refine y_iload_n 5 C dJx4a65c_elementData_915e3_4 rfl rfl ?_
  refine y_aald 6 C hd hi dJx4a65c_elementData_915e3_5 rfl ?_
  exact y_aret C dJx4a65c_elementData_915e3_6 rfl ⟨rfl, rfl⟩
set_option maxHeartbeats 4000000 in
set_option maxRecDepth 100000 in
theorem j_Jx4a65c_get_915e3 {E : EV} {l : Launch} {G : FT} {a d N : Nat} {m0 n i : Int} {g : Nat → Option Nat} (hg : G a = some (lL m0 d n)) (hd : G d = some (aO E N g)) (hi : 0 ≤ i ∧ i < n ∧ n ≤ N ∧ N ≤ 2000) : MR E l yJx4a65c_get_915e3 cJx4a65c_get_915e3 2 (some (.object "java/lang/Object")) 2 43 0 0 [.ref a, .int (i32 i)] G (pF (some (va_rf (g i.toNat))) G) := by
  refine mr_of (own := RJx4a65c) (L := [some (.ref a), some (.int (i32 i))]) (by decide +kernel) rfl (Nat.le_of_ble_eq_true rfl) (List.forall_mem_cons.mpr ⟨rfl, (List.forall_mem_cons.mpr ⟨rfl, (fun _ h => absurd h List.not_mem_nil)⟩)⟩) rfl ?_
  intro p e s m args below meth c C hin
  refine y_iload_n 1 C dJx4a65c_get_915e3_0 rfl rfl ?_
  refine y_aload_n 2 C dJx4a65c_get_915e3_1 rfl rfl ?_
  refine y_getf 5 C fr_Jx4a65c_48 hg rfl dJx4a65c_get_915e3_2 rfl ?_
  refine y_callS (As := [_, _]) 8 _ _ C vw_Jx4a65c_118 tw_J15_checkIndex_7cf53 (j_J15_checkIndex_7cf53 ⟨hi.1, hi.2.1, by omega⟩) dJx4a65c_get_915e3_5 rfl rfl rfl ⟨Nat.le_of_ble_eq_true rfl, Nat.le_of_ble_eq_true rfl⟩ (Nat.le_of_ble_eq_true rfl) ⟨Nat.le_refl _, Nat.le_refl _⟩ (fun v G' hq => ?_)
  obtain ⟨rfl, rfl⟩ := hq
  refine y_as rfl rfl rfl ?_
  refine y_pop 9 C dJx4a65c_get_915e3_8 rfl rfl ?_
  refine y_aload_n 10 C dJx4a65c_get_915e3_9 rfl rfl ?_
  refine y_iload_n 11 C dJx4a65c_get_915e3_10 rfl rfl ?_
  refine y_callV (As := [_]) 14 2 _ _ C vw_Jx4a65c_123 iw_Jx4a65c_elementData_915e3 sw_Jx4a65c_elementData_915e3 (j_Jx4a65c_elementData_915e3 hg hd ⟨hi.1, by omega, by omega⟩) dJx4a65c_get_915e3_11 rfl rfl rfl rfl rfl hg ⟨Nat.le_of_ble_eq_true rfl, Nat.le_of_ble_eq_true rfl⟩ (Nat.le_of_ble_eq_true rfl) ⟨Nat.le_refl _, Nat.le_refl _⟩ (fun v G' hq => ?_)
  obtain ⟨rfl, rfl⟩ := hq
  refine y_as rfl rfl rfl ?_
  exact y_aret C dJx4a65c_get_915e3_14 rfl ⟨rfl, rfl⟩
set_option maxHeartbeats 4000000 in
set_option maxRecDepth 100000 in
theorem j_Jxa1e45_init_da8c8 {E : EV} {l : Launch} {G : FT} {a : Nat} : MR E l yJxa1e45_init_da8c8 cJxa1e45_init_da8c8 1 none 1 12 0 0 [.ref a] G (pF none G) := by
  refine mr_of (own := RJxa1e45) (L := [some (.ref a)]) (by decide +kernel) rfl (Nat.le_of_ble_eq_true rfl) (List.forall_mem_cons.mpr ⟨rfl, (fun _ h => absurd h List.not_mem_nil)⟩) rfl ?_
  intro p e s m args below meth c C hin
  refine y_aload_n 1 C dJxa1e45_init_da8c8_0 rfl rfl ?_
  refine y_objInit 4 C (aw_i 144 (by decide +kernel) rfl) ⟨Nat.le_of_ble_eq_true rfl, Nat.le_of_ble_eq_true rfl⟩ dJxa1e45_init_da8c8_1 rfl ?_
  exact y_ret C dJxa1e45_init_da8c8_4 ⟨rfl, rfl⟩
set_option maxHeartbeats 4000000 in
set_option maxRecDepth 100000 in
theorem j_Jxc12de_init_da8c8 {E : EV} {l : Launch} {G : FT} {a d : Nat} {r : Value} {n x0 : Int} (hg : G a = some (.inr (2, [.int (i32 x0), r, .int (i32 n)]))) : MR E l yJxc12de_init_da8c8 cJxc12de_init_da8c8 1 none 2 32 0 0 [.ref a] G (pF none (va_up G a (some (.inr (2, [.int (i32 0), r, .int (i32 n)]))))) := by
  refine mr_of (own := RJxc12de) (L := [some (.ref a)]) (by decide +kernel) rfl (Nat.le_of_ble_eq_true rfl) (List.forall_mem_cons.mpr ⟨rfl, (fun _ h => absurd h List.not_mem_nil)⟩) rfl ?_
  intro p e s m args below meth c C hin
  refine y_aload_n 1 C dJxc12de_init_da8c8_0 rfl rfl ?_
  refine y_callI (As := []) 4 _ _ C vw_Jxc12de_1 iw_Jxa1e45_init_da8c8 rfl (j_Jxa1e45_init_da8c8) dJxc12de_init_da8c8_1 rfl rfl rfl ⟨Nat.le_of_ble_eq_true rfl, Nat.le_of_ble_eq_true rfl⟩ (Nat.le_of_ble_eq_true rfl) ⟨Nat.le_refl _, Nat.le_refl _⟩ (fun v G' hq => ?_)
  obtain ⟨rfl, rfl⟩ := hq
  refine y_as rfl rfl rfl ?_
  refine y_aload_n 5 C dJxc12de_init_da8c8_4 rfl rfl ?_
  refine y_iconst 6 C dJxc12de_init_da8c8_5 rfl ?_
  refine y_putf 9 0 C fw_Jxc12de_7 hg (Nat.le_of_ble_eq_true rfl) fits_int dJxc12de_init_da8c8_6 rfl rfl ?_
  exact y_ret C dJxc12de_init_da8c8_9 ⟨rfl, rfl⟩
set_option maxHeartbeats 4000000 in
set_option maxRecDepth 100000 in
theorem j_Jx4a65c_init_da8c8 {E : EV} {l : Launch} {G : FT} {a : Nat} (hg : G a = some (.inr (2, [.int 0, .null, .int 0]))) : MR E l yJx4a65c_init_da8c8 cJx4a65c_init_da8c8 1 none 3 52 0 0 [.ref a] G (pF none (va_up G a (some (lL 0 E.2.2.2 0)))) := by
  refine mr_of (own := RJx4a65c) (L := [some (.ref a)]) (by decide +kernel) rfl (Nat.le_of_ble_eq_true rfl) (List.forall_mem_cons.mpr ⟨rfl, (fun _ h => absurd h List.not_mem_nil)⟩) rfl ?_
  intro p e s m args below meth c C hin
  refine y_aload_n 1 C dJx4a65c_init_da8c8_0 rfl rfl ?_
  refine y_callI (As := []) 4 _ _ C vw_Jx4a65c_1 iw_Jxc12de_init_da8c8 rfl (j_Jxc12de_init_da8c8 (d := a) (x0 := 0) (n := 0) (r := .null) hg) dJx4a65c_init_da8c8_1 rfl rfl rfl ⟨Nat.le_of_ble_eq_true rfl, Nat.le_of_ble_eq_true rfl⟩ (Nat.le_of_ble_eq_true rfl) ⟨Nat.le_refl _, Nat.le_refl _⟩ (fun v G' hq => ?_)
  obtain ⟨rfl, rfl⟩ := hq
  refine y_as rfl rfl rfl ?_
  refine y_aload_n 5 C dJx4a65c_init_da8c8_4 rfl rfl ?_
  refine y_getsE 8 C (aw_i 145 (by decide +kernel) rfl) dJx4a65c_init_da8c8_5 rfl ?_
  refine y_putf 11 2 C fw_Jx4a65c_9 up_s (Nat.le_of_ble_eq_true rfl) (fits_ref (v := some _)) dJx4a65c_init_da8c8_8 rfl (up_up _ _ _ _) ?_
  exact y_ret C dJx4a65c_init_da8c8_11 ⟨rfl, rfl⟩
set_option maxHeartbeats 4000000 in
set_option maxRecDepth 100000 in
theorem j_J8_newLength_cabcc {E : EV} {l : Launch} {G : FT} {x y z : Int} (h : 0 ≤ x ∧ x ≤ 100000 ∧ 1 ≤ y ∧ y ≤ 100000 ∧ 0 ≤ z ∧ z ≤ 100000) : MR E l yJ8_newLength_cabcc cJ8_newLength_cabcc 4 (some .int) 1 21 0 0 [.int (i32 x), .int (i32 y), .int (i32 z)] G (pF (some (.int (i32 (x + max y z)))) G) := by
  refine mr_of (own := RJ8) (L := [some (.int (i32 x)), some (.int (i32 y)), some (.int (i32 z)), none]) (by decide +kernel) rfl (Nat.le_of_ble_eq_true rfl) (List.forall_mem_cons.mpr ⟨rfl, (List.forall_mem_cons.mpr ⟨rfl, (List.forall_mem_cons.mpr ⟨rfl, (fun _ h => absurd h List.not_mem_nil)⟩)⟩)⟩) rfl ?_
  intro p e s m args below meth c C hin
  obtain ⟨a1, a2, a3, a4, a5, a6⟩ := h
  refine y_iload_n 1 C dJ8_newLength_cabcc_0 rfl rfl ?_
  refine y_iload_n 2 C dJ8_newLength_cabcc_1 rfl rfl ?_
  refine y_iload_n 3 C dJ8_newLength_cabcc_2 rfl rfl ?_
  refine y_mmax (x := y) (y := z) 6 C mw_J8_194 ⟨Nat.le_of_ble_eq_true rfl, Nat.le_of_ble_eq_true rfl⟩ ⟨by omega, by omega⟩ ⟨by omega, by omega⟩ dJ8_newLength_cabcc_3 rfl ?_
  refine y_iadd 7 C dJ8_newLength_cabcc_6 rfl ?_
  refine y_istore_n 8 C dJ8_newLength_cabcc_7 rfl rfl rfl ?_
  refine y_iconst 9 C dJ8_newLength_cabcc_8 rfl ?_
  refine y_iload_n 10 C dJ8_newLength_cabcc_9 rfl rfl ?_
  refine y_icmp_ge 13 21 C dJ8_newLength_cabcc_10 rfl (by decide) (by first | assumption | omega | exact ⟨by omega, by omega⟩) (by first | assumption | omega | exact ⟨by omega, by omega⟩) (fun h10 => ?_) (fun h10 => ?_)
  · skip
    exact absurd h10 (by omega)
  · skip
    refine y_iload_n 14 C dJ8_newLength_cabcc_13 rfl rfl ?_
    refine y_ldc (v := 2147483639) 16 C (aw_i 419 (by decide +kernel) rfl) dJ8_newLength_cabcc_14 rfl ?_
    refine y_icmp_gt 19 21 C dJ8_newLength_cabcc_16 rfl (by decide) (by first | assumption | omega | exact ⟨by omega, by omega⟩) (by first | assumption | omega | exact ⟨by omega, by omega⟩) (fun h16 => ?_) (fun h16 => ?_)
    · skip
      exact absurd h16 (by omega)
    · skip
      refine y_iload_n 20 C dJ8_newLength_cabcc_19 rfl rfl ?_
      exact y_iret C dJ8_newLength_cabcc_20 rfl ⟨rfl, rfl⟩
set_option maxHeartbeats 4000000 in
set_option maxRecDepth 100000 in
theorem j_J7_copyOf_6403c {E : EV} {l : Launch} {G : FT} {d N k ms : Nat} {g : Nat → Option Nat} (hd : G d = some (aO E N g)) (hk : N ≤ k ∧ k ≤ 5000 ∧ k ≤ ms) (hO : ∀ i y : Nat, i < N → g i = some y → OB G y) : MR E l yJ7_copyOf_6403c cJ7_copyOf_6403c 4 (some (.array (.object "java/lang/Object"))) 1 60 1 ms [.ref d, .int (i32 (k : Int)), .ref (E.2.1 9)] G (fun v G' => ∃ (q : Nat) (g' : Nat → Option Nat), G q = none ∧ v = some (.ref q) ∧ (∀ x, G' x = if x = q then some (aO E k g') else G x) ∧ ∀ j, j < N → g' j = g j) := by
  refine mr_of (own := RJ7) (L := [some (.ref d), some (.int (i32 (k : Int))), some (.ref (E.2.1 9)), none]) (by decide +kernel) rfl (Nat.le_of_ble_eq_true rfl) (List.forall_mem_cons.mpr ⟨rfl, (List.forall_mem_cons.mpr ⟨rfl, (List.forall_mem_cons.mpr ⟨rfl, (fun _ h => absurd h List.not_mem_nil)⟩)⟩)⟩) rfl ?_
  intro p e s m args below meth c C hin
  obtain ⟨k1, k2, k3⟩ := hk
  refine y_aload_n 1 C dJ7_copyOf_6403c_0 rfl rfl ?_
  refine y_ldcM 3 C (aw_i 452 (by decide +kernel) rfl) dJ7_copyOf_6403c_1 rfl ?_
  refine y_acmp_ne (rx := some _) (ry := some _) 6 13 C dJ7_copyOf_6403c_3 rfl (by decide) (fun z => absurd rfl z) (fun _ => ?_)
  refine y_iload_n 7 C dJ7_copyOf_6403c_6 rfl rfl ?_
  refine y_newO (kc0 := 0) (ks0 := 0) 10 C (aw_i 454 (by decide +kernel) rfl) (by omega) dJ7_copyOf_6403c_7 rfl ⟨by omega, by omega⟩ (fun q hq => ?_)
  have hdq : d ≠ q := fun z => by rw [z, hq] at hd; cases hd
  have hd1 := (up_n (e := some (aO E k (fun _ => none))) hdq).trans hd
  refine y_goto 24 C dJ7_copyOf_6403c_10 (by decide) ?_
  refine y_astore_n 25 C dJ7_copyOf_6403c_24 rfl rfl rfl ?_
  refine y_aload_n 26 C dJ7_copyOf_6403c_25 rfl rfl ?_
  refine y_iconst 27 C dJ7_copyOf_6403c_26 rfl ?_
  refine y_aload_n 28 C dJ7_copyOf_6403c_27 rfl rfl ?_
  refine y_iconst 29 C dJ7_copyOf_6403c_28 rfl ?_
  refine y_aload_n 30 C dJ7_copyOf_6403c_29 rfl rfl ?_
  refine y_alen 31 3 C hd1 rfl dJ7_copyOf_6403c_30 rfl ?_
  refine y_iload_n 32 C dJ7_copyOf_6403c_31 rfl rfl ?_
  refine y_mmin (x := (N : Int)) (y := (k : Int)) 35 C mw_J7_304 ⟨Nat.le_of_ble_eq_true rfl, Nat.le_of_ble_eq_true rfl⟩ ⟨by omega, by omega⟩ ⟨by omega, by omega⟩ dJ7_copyOf_6403c_32 rfl ?_
  refine y_copyO (sp := 0) (dp := 0) (k0 := N) 38 C ys_J7150 hd1 up_s ⟨rfl, rfl, by show min (N : Int) (k : Int) = _; omega⟩ ⟨by omega, by omega, by omega, by omega⟩ (fun i y hi hy => ?_) ⟨Nat.le_of_ble_eq_true rfl, Nat.le_of_ble_eq_true rfl⟩ dJ7_copyOf_6403c_35 rfl rfl ?_
  · rw [Nat.zero_add] at hy
    have := hO i y hi hy
    exact OB_up this (OB_nn this hq)
  refine y_aload_n 39 C dJ7_copyOf_6403c_38 rfl rfl ?_
  exact y_aret (r := some _) C dJ7_copyOf_6403c_39 rfl ⟨q, va_cpy g (fun _ => none) 0 0 N, hq, rfl, fun x => by unfold va_up; split <;> rfl, fun j hj => by unfold va_cpy; rw [if_pos ⟨by omega, by omega⟩, Nat.zero_add, Nat.sub_zero]⟩
set_option maxHeartbeats 4000000 in
set_option maxRecDepth 100000 in
theorem j_J7_copyOf_1904c {E : EV} {l : Launch} {G : FT} {d N k ms : Nat} {g : Nat → Option Nat} (hd : G d = some (aO E N g)) (hk : N ≤ k ∧ k ≤ 5000 ∧ k ≤ ms) (hO : ∀ i y : Nat, i < N → g i = some y → OB G y) : MR E l yJ7_copyOf_1904c cJ7_copyOf_1904c 2 (some (.array (.object "java/lang/Object"))) 2 83 1 ms [.ref d, .int (i32 (k : Int))] G (fun v G' => ∃ (q : Nat) (g' : Nat → Option Nat), G q = none ∧ v = some (.ref q) ∧ (∀ x, G' x = if x = q then some (aO E k g') else G x) ∧ ∀ j, j < N → g' j = g j) := by
  refine mr_of (own := RJ7) (L := [some (.ref d), some (.int (i32 (k : Int)))]) (by decide +kernel) rfl (Nat.le_of_ble_eq_true rfl) (List.forall_mem_cons.mpr ⟨rfl, (List.forall_mem_cons.mpr ⟨rfl, (fun _ h => absurd h List.not_mem_nil)⟩)⟩) rfl ?_
  intro p e s m args below meth c C hin
  refine y_aload_n 1 C dJ7_copyOf_1904c_0 rfl rfl ?_
  refine y_iload_n 2 C dJ7_copyOf_1904c_1 rfl rfl ?_
  refine y_aload_n 3 C dJ7_copyOf_1904c_2 rfl rfl ?_
  refine y_getC 6 C (aw_i 426 (by decide +kernel) rfl) (nw_i 1966 (by decide +kernel) rfl) (aw_i 1965 (by decide +kernel) rfl) (aw_i 427 (by decide +kernel) rfl) (aw_i 448 (by decide +kernel) rfl) hd ⟨Nat.le_of_ble_eq_true rfl, Nat.le_of_ble_eq_true rfl⟩ dJ7_copyOf_1904c_3 rfl ?_
  refine y_callS (As := [_, _, _]) 9 0 0 C vw_J7_300 tw_J7_copyOf_6403c (j_J7_copyOf_6403c hd hk hO) dJ7_copyOf_1904c_6 rfl rfl rfl ⟨Nat.le_of_ble_eq_true rfl, Nat.le_of_ble_eq_true rfl⟩ (Nat.le_of_ble_eq_true rfl) ⟨by omega, by omega⟩ (fun v G' hq => ?_)
  obtain ⟨q, g1, q1, rfl, q2, q3⟩ := hq
  exact y_aret (r := some _) C dJ7_copyOf_1904c_9 rfl ⟨q, g1, q1, rfl, q2, q3⟩
set_option maxHeartbeats 4000000 in
set_option maxRecDepth 100000 in
theorem j_Jx4a65c_grow_92f84A {E : EV} {l : Launch} {G : FT} {a d n ms : Nat} {m0 : Int} {g : Nat → Option Nat} (hg : G a = some (lL m0 d n)) (hd : G d = some (aO E n g)) (hn : 2 ≤ n ∧ n ≤ 1000 ∧ n + n / 2 ≤ ms) (hO : ∀ i y : Nat, i < n → g i = some y → OB G y) : MR E l yJx4a65c_grow_92f84 cJx4a65c_grow_92f84 4 (some (.array (.object "java/lang/Object"))) 3 104 1 ms [.ref a, .int (i32 ((n : Int) + 1))] G (fun v G' => ∃ (q cap' : Nat) (g' : Nat → Option Nat), G q = none ∧ q ≠ a ∧ v = some (.ref q) ∧ (∀ x, G' x = if x = a then some (lL m0 q n) else if x = q then some (aO E cap' g') else G x) ∧ n + 1 ≤ cap' ∧ 2 ≤ cap' ∧ cap' ≤ 2000 ∧ ∀ j, j < n → g' j = g j) := by
  refine mr_of (own := RJx4a65c) (L := [some (.ref a), some (.int (i32 ((n : Int) + 1))), none, none]) (by decide +kernel) rfl (Nat.le_of_ble_eq_true rfl) (List.forall_mem_cons.mpr ⟨rfl, (List.forall_mem_cons.mpr ⟨rfl, (fun _ h => absurd h List.not_mem_nil)⟩)⟩) rfl ?_
  intro p e s m args below meth c C hin
  obtain ⟨n1, n2, n3⟩ := hn
  refine y_aload_n 1 C dJx4a65c_grow_92f84_0 rfl rfl ?_
  refine y_getf 4 C fr_Jx4a65c_9 hg rfl dJx4a65c_grow_92f84_1 rfl ?_
  refine y_alen 5 3 C hd rfl dJx4a65c_grow_92f84_4 rfl ?_
  refine y_istore_n 6 C dJx4a65c_grow_92f84_5 rfl rfl rfl ?_
  refine y_iload_n 7 C dJx4a65c_grow_92f84_6 rfl rfl ?_
  refine y_if_gt 10 20 C dJx4a65c_grow_92f84_7 rfl (by decide) (by first | assumption | omega | exact ⟨by omega, by omega⟩) (fun h7 => ?_) (fun h7 => ?_)
  · skip
    refine y_iload_n 21 C dJx4a65c_grow_92f84_20 rfl rfl ?_
    refine y_iload_n 22 C dJx4a65c_grow_92f84_21 rfl rfl ?_
    refine y_iload_n 23 C dJx4a65c_grow_92f84_22 rfl rfl ?_
    refine y_isub 24 C dJx4a65c_grow_92f84_23 rfl ?_
    refine y_iload_n 25 C dJx4a65c_grow_92f84_24 rfl rfl ?_
    refine y_iconst 26 C dJx4a65c_grow_92f84_25 rfl ?_
    refine y_ishr1 27 C dJx4a65c_grow_92f84_26 rfl (by omega) ?_
    refine y_callS (As := [_, _, _]) 30 _ _ C vw_Jx4a65c_73 tw_J8_newLength_cabcc (j_J8_newLength_cabcc (x := (n : Int)) (y := (n : Int) + 1 - n) (z := ((n / 2 : Nat) : Int)) ⟨by omega, by omega, by omega, by omega, by omega, by omega⟩) dJx4a65c_grow_92f84_27 rfl rfl rfl ⟨Nat.le_of_ble_eq_true rfl, Nat.le_of_ble_eq_true rfl⟩ (Nat.le_of_ble_eq_true rfl) ⟨Nat.le_refl _, Nat.le_refl _⟩ (fun v G' hq => ?_)
    obtain ⟨rfl, rfl⟩ := hq
    refine y_as rfl (rfl) (show [Value.int (i32 ((n + n / 2 : Nat) : Int))] = _ from congrArg (fun z => [Value.int (i32 z)]) (by omega)) ?_
    refine y_istore_n 31 C dJx4a65c_grow_92f84_30 rfl rfl rfl ?_
    refine y_aload_n 32 C dJx4a65c_grow_92f84_31 rfl rfl ?_
    refine y_aload_n 33 C dJx4a65c_grow_92f84_32 rfl rfl ?_
    refine y_getf 36 C fr_Jx4a65c_9 hg rfl dJx4a65c_grow_92f84_33 rfl ?_
    refine y_iload_n 37 C dJx4a65c_grow_92f84_36 rfl rfl ?_
    refine y_callS (As := [_, _]) 40 0 0 C vw_Jx4a65c_66 tw_J7_copyOf_1904c (j_J7_copyOf_1904c (k := n + n / 2) hd ⟨by omega, by omega, n3⟩ hO) dJx4a65c_grow_92f84_37 rfl rfl rfl ⟨Nat.le_of_ble_eq_true rfl, Nat.le_of_ble_eq_true rfl⟩ (Nat.le_of_ble_eq_true rfl) ⟨by omega, by omega⟩ (fun v G' hq => ?_)
    obtain ⟨q, g1, q1, rfl, q3, q4⟩ := hq
    have haq : a ≠ q := fun z => by rw [z, q1] at hg; cases hg
    refine y_as rfl rfl rfl ?_
    refine y_dup_x1 41 C dJx4a65c_grow_92f84_40 rfl rfl rfl ?_
    refine y_putf 44 2 C fw_Jx4a65c_9 (show G' a = _ from (q3 a).trans ((if_neg haq).trans hg)) (Nat.le_of_ble_eq_true rfl) (fits_ref (v := some _)) dJx4a65c_grow_92f84_41 rfl rfl ?_
    exact y_aret (r := some _) C dJx4a65c_grow_92f84_44 rfl ⟨q, n + n / 2, g1, q1, haq.symm, rfl, fun x => by unfold va_up; rw [q3]; rfl, by omega, by omega, by omega, q4⟩
  · skip
    exact absurd h7 (by omega)
set_option maxHeartbeats 4000000 in
set_option maxRecDepth 100000 in
theorem j_Jx4a65c_grow_92f84E {E : EV} {l : Launch} {G : FT} {a n ms : Nat} {m0 : Int} {g : Nat → Option Nat} (hg : G a = some (lL m0 E.2.2.2 n)) (hn : n = 0 ∧ 10 ≤ ms) : MR E l yJx4a65c_grow_92f84 cJx4a65c_grow_92f84 4 (some (.array (.object "java/lang/Object"))) 3 104 1 ms [.ref a, .int (i32 ((n : Int) + 1))] G (fun v G' => ∃ (q cap' : Nat) (g' : Nat → Option Nat), G q = none ∧ q ≠ a ∧ v = some (.ref q) ∧ (∀ x, G' x = if x = a then some (lL m0 q n) else if x = q then some (aO E cap' g') else G x) ∧ n + 1 ≤ cap' ∧ 2 ≤ cap' ∧ cap' ≤ 2000 ∧ ∀ j, j < n → g' j = g j) := by
  refine mr_of (own := RJx4a65c) (L := [some (.ref a), some (.int (i32 ((n : Int) + 1))), none, none]) (by decide +kernel) rfl (Nat.le_of_ble_eq_true rfl) (List.forall_mem_cons.mpr ⟨rfl, (List.forall_mem_cons.mpr ⟨rfl, (fun _ h => absurd h List.not_mem_nil)⟩)⟩) rfl ?_
  intro p e s m args below meth c C hin
  obtain ⟨rfl, n3⟩ := hn
  refine y_aload_n 1 C dJx4a65c_grow_92f84_0 rfl rfl ?_
  refine y_getf 4 C fr_Jx4a65c_9 hg rfl dJx4a65c_grow_92f84_1 rfl ?_
  refine y_alenE 5 C dJx4a65c_grow_92f84_4 rfl ?_
  refine y_istore_n 6 C dJx4a65c_grow_92f84_5 rfl rfl rfl ?_
  refine y_iload_n 7 C dJx4a65c_grow_92f84_6 rfl rfl ?_
  refine y_if_gt 10 20 C dJx4a65c_grow_92f84_7 rfl (by decide) (by first | assumption | omega | exact ⟨by omega, by omega⟩) (fun h7 => ?_) (fun h7 => ?_)
  · skip
    exact absurd h7 (by omega)
  · skip
    refine y_aload_n 11 C dJx4a65c_grow_92f84_10 rfl rfl ?_
    refine y_getf 14 C fr_Jx4a65c_9 hg rfl dJx4a65c_grow_92f84_11 rfl ?_
    refine y_getsE 17 C (aw_i 145 (by decide +kernel) rfl) dJx4a65c_grow_92f84_14 rfl ?_
    refine y_acmp_eq (rx := some _) (ry := some _) 20 45 C dJx4a65c_grow_92f84_17 rfl (by decide) (fun _ => ?_) (fun z => absurd rfl z)
    refine y_aload_n 46 C dJx4a65c_grow_92f84_45 rfl rfl ?_
    refine y_bipush 48 C dJx4a65c_grow_92f84_46 rfl (by decide) ?_
    refine y_iload_n 49 C dJx4a65c_grow_92f84_48 rfl rfl ?_
    refine y_mmax (x := 10) (y := ((0 : Nat) : Int) + 1) 52 C mw_Jx_79 ⟨Nat.le_of_ble_eq_true rfl, Nat.le_of_ble_eq_true rfl⟩ ⟨by omega, by omega⟩ ⟨by omega, by omega⟩ dJx4a65c_grow_92f84_49 rfl ?_
    refine y_as rfl rfl (show [Value.int (i32 ((10 : Nat) : Int)), .ref a] = _ from congrArg (fun z => [Value.int (i32 z), .ref a]) (by omega)) ?_
    refine y_newO (N := 10) (kc0 := 0) (ks0 := 0) 55 C (aw_i 462 (by decide +kernel) rfl) (by omega) dJx4a65c_grow_92f84_52 rfl ⟨by omega, by omega⟩ (fun q hq => ?_)
    have haq : a ≠ q := fun z => by rw [z, hq] at hg; cases hg
    refine y_dup_x1 56 C dJx4a65c_grow_92f84_55 rfl rfl rfl ?_
    refine y_putf 59 2 C fw_Jx4a65c_9 ((up_n haq).trans hg) (Nat.le_of_ble_eq_true rfl) (fits_ref (v := some _)) dJx4a65c_grow_92f84_56 rfl rfl ?_
    exact y_aret (r := some _) C dJx4a65c_grow_92f84_59 rfl ⟨q, 10, fun _ => none, hq, haq.symm, rfl, fun x => by unfold va_up; rfl, by omega, by omega, by omega, fun j hj => by omega⟩
set_option maxHeartbeats 4000000 in
set_option maxRecDepth 100000 in
theorem j_Jx4a65c_grow_d5877A {E : EV} {l : Launch} {G : FT} {a d n ms : Nat} {m0 : Int} {g : Nat → Option Nat} (hg : G a = some (lL m0 d n)) (hd : G d = some (aO E n g)) (hn : 2 ≤ n ∧ n ≤ 1000 ∧ n + n / 2 ≤ ms) (hO : ∀ i y : Nat, i < n → g i = some y → OB G y) : MR E l yJx4a65c_grow_d5877 cJx4a65c_grow_d5877 1 (some (.array (.object "java/lang/Object"))) 4 127 1 ms [.ref a] G (fun v G' => ∃ (q cap' : Nat) (g' : Nat → Option Nat), G q = none ∧ q ≠ a ∧ v = some (.ref q) ∧ (∀ x, G' x = if x = a then some (lL m0 q n) else if x = q then some (aO E cap' g') else G x) ∧ n + 1 ≤ cap' ∧ 2 ≤ cap' ∧ cap' ≤ 2000 ∧ ∀ j, j < n → g' j = g j) := by
  refine mr_of (own := RJx4a65c) (L := [some (.ref a)]) (by decide +kernel) rfl (Nat.le_of_ble_eq_true rfl) (List.forall_mem_cons.mpr ⟨rfl, (fun _ h => absurd h List.not_mem_nil)⟩) rfl ?_
  intro p e s m args below meth c C hin
  refine y_aload_n 1 C dJx4a65c_grow_d5877_0 rfl rfl ?_
  refine y_aload_n 2 C dJx4a65c_grow_d5877_1 rfl rfl ?_
  refine y_getf 5 C fr_Jx4a65c_48 hg rfl dJx4a65c_grow_d5877_2 rfl ?_
  refine y_iconst 6 C dJx4a65c_grow_d5877_5 rfl ?_
  refine y_iadd 7 C dJx4a65c_grow_d5877_6 rfl ?_
  refine y_callV (As := [_]) 10 2 0 0 C vw_Jx4a65c_69 iw_Jx4a65c_grow_92f84 sw_Jx4a65c_grow_92f84 (j_Jx4a65c_grow_92f84A hg hd hn hO) dJx4a65c_grow_d5877_7 rfl rfl rfl rfl rfl hg ⟨Nat.le_of_ble_eq_true rfl, Nat.le_of_ble_eq_true rfl⟩ (Nat.le_of_ble_eq_true rfl) ⟨by omega, by omega⟩ (fun v G' hq => ?_)
  obtain ⟨q, cap, g1, q1, q2, rfl, q3⟩ := hq
  exact y_aret (r := some _) C dJx4a65c_grow_d5877_10 rfl ⟨q, cap, g1, q1, q2, rfl, q3⟩
set_option maxHeartbeats 4000000 in
set_option maxRecDepth 100000 in
theorem j_Jx4a65c_grow_d5877E {E : EV} {l : Launch} {G : FT} {a n ms : Nat} {m0 : Int} {g : Nat → Option Nat} (hg : G a = some (lL m0 E.2.2.2 n)) (hn : n = 0 ∧ 10 ≤ ms) : MR E l yJx4a65c_grow_d5877 cJx4a65c_grow_d5877 1 (some (.array (.object "java/lang/Object"))) 4 127 1 ms [.ref a] G (fun v G' => ∃ (q cap' : Nat) (g' : Nat → Option Nat), G q = none ∧ q ≠ a ∧ v = some (.ref q) ∧ (∀ x, G' x = if x = a then some (lL m0 q n) else if x = q then some (aO E cap' g') else G x) ∧ n + 1 ≤ cap' ∧ 2 ≤ cap' ∧ cap' ≤ 2000 ∧ ∀ j, j < n → g' j = g j) := by
  refine mr_of (own := RJx4a65c) (L := [some (.ref a)]) (by decide +kernel) rfl (Nat.le_of_ble_eq_true rfl) (List.forall_mem_cons.mpr ⟨rfl, (fun _ h => absurd h List.not_mem_nil)⟩) rfl ?_
  intro p e s m args below meth c C hin
  refine y_aload_n 1 C dJx4a65c_grow_d5877_0 rfl rfl ?_
  refine y_aload_n 2 C dJx4a65c_grow_d5877_1 rfl rfl ?_
  refine y_getf 5 C fr_Jx4a65c_48 hg rfl dJx4a65c_grow_d5877_2 rfl ?_
  refine y_iconst 6 C dJx4a65c_grow_d5877_5 rfl ?_
  refine y_iadd 7 C dJx4a65c_grow_d5877_6 rfl ?_
  refine y_callV (As := [_]) 10 2 0 0 C vw_Jx4a65c_69 iw_Jx4a65c_grow_92f84 sw_Jx4a65c_grow_92f84 (j_Jx4a65c_grow_92f84E (g := g) hg hn) dJx4a65c_grow_d5877_7 rfl rfl rfl rfl rfl hg ⟨Nat.le_of_ble_eq_true rfl, Nat.le_of_ble_eq_true rfl⟩ (Nat.le_of_ble_eq_true rfl) ⟨by omega, by omega⟩ (fun v G' hq => ?_)
  obtain ⟨q, cap, g1, q1, q2, rfl, q3⟩ := hq
  exact y_aret (r := some _) C dJx4a65c_grow_d5877_10 rfl ⟨q, cap, g1, q1, q2, rfl, q3⟩
set_option maxHeartbeats 4000000 in
set_option maxRecDepth 100000 in
theorem j_Jx4a65c_add_72be8N {E : EV} {l : Launch} {G : FT} {a v d n cap ms : Nat} {m0 : Int} {g : Nat → Option Nat} (hg : G a = some (lL m0 d n)) (hv : OB G v) (hva : v ≠ a) (hd : G d = some (aO E cap g)) (hn : n < cap ∧ 2 ≤ cap ∧ cap ≤ 2000) : MR E l yJx4a65c_add_72be8 cJx4a65c_add_72be8 4 none 5 147 1 ms [.ref a, .ref v, .ref d, .int (i32 (n : Int))] G (fun v' G' => v' = none ∧ ∃ (d' cap' : Nat) (g' : Nat → Option Nat), (d' = d ∨ (G d' = none ∧ d' ≠ a)) ∧ (∀ x, G' x = if x = a then some (lL m0 d' (n + 1)) else if x = d' then some (aO E cap' g') else G x) ∧ n + 1 ≤ cap' ∧ 2 ≤ cap' ∧ cap' ≤ 2000 ∧ (∀ j, j < n → g' j = g j) ∧ g' n = some v) := by
  refine mr_of (own := RJx4a65c) (L := [some (.ref a), some (.ref v), some (.ref d), some (.int (i32 (n : Int)))]) (by decide +kernel) rfl (Nat.le_of_ble_eq_true rfl) (List.forall_mem_cons.mpr ⟨rfl, (List.forall_mem_cons.mpr ⟨rfl, (List.forall_mem_cons.mpr ⟨rfl, (List.forall_mem_cons.mpr ⟨rfl, (fun _ h => absurd h List.not_mem_nil)⟩)⟩)⟩)⟩) rfl ?_
  intro p e s m args below meth c C hin
  obtain ⟨n1, n2, n3⟩ := hn
  obtain ⟨ci, NN, Cn, Tn, fs, v1, v2, v3⟩ := hv
  have had : a ≠ d := fun z => by rw [z, hd] at hg; cases hg
  refine y_iload_n 1 C dJx4a65c_add_72be8_0 rfl rfl ?_
  refine y_aload_n 2 C dJx4a65c_add_72be8_1 rfl rfl ?_
  refine y_alen 3 3 C hd rfl dJx4a65c_add_72be8_2 rfl ?_
  refine y_icmp_ne 6 11 C dJx4a65c_add_72be8_3 rfl (by decide) (by first | assumption | omega | exact ⟨by omega, by omega⟩) (by first | assumption | omega | exact ⟨by omega, by omega⟩) (fun h3 => ?_) (fun h3 => ?_)
  · skip
    refine y_aload_n 12 C dJx4a65c_add_72be8_11 rfl rfl ?_
    refine y_iload_n 13 C dJx4a65c_add_72be8_12 rfl rfl ?_
    refine y_aload_n 14 C dJx4a65c_add_72be8_13 rfl rfl ?_
    refine y_aast (G' := va_up G d (some (aO E cap (va_up g n (some v))))) 15 C hd v1 v2 v3 ⟨by omega, by omega, by omega⟩ dJx4a65c_add_72be8_14 rfl rfl ?_
    refine y_aload_n 16 C dJx4a65c_add_72be8_15 rfl rfl ?_
    refine y_iload_n 17 C dJx4a65c_add_72be8_16 rfl rfl ?_
    refine y_iconst 18 C dJx4a65c_add_72be8_17 rfl ?_
    refine y_iadd 19 C dJx4a65c_add_72be8_18 rfl ?_
    refine y_putf (G' := va_up (va_up G d (some (aO E cap (va_up g n (some v))))) a (some (lL m0 d (n + 1)))) 22 0 C fw_Jx4a65c_48 ((up_n had).trans hg) (Nat.le_of_ble_eq_true rfl) fits_int dJx4a65c_add_72be8_19 rfl rfl ?_
    exact y_ret C dJx4a65c_add_72be8_22 ⟨rfl, d, cap, va_up g n (some v), Or.inl rfl, fun x => by unfold va_up; rfl, by omega, n2, n3, fun j hj => by unfold va_up; rw [if_neg (by omega)], by unfold va_up; rw [if_pos rfl]⟩
  · skip
    exact absurd h3 (by omega)
set_option maxHeartbeats 4000000 in
set_option maxRecDepth 100000 in
theorem j_Jx4a65c_add_72be8A {E : EV} {l : Launch} {G : FT} {a v d n ms : Nat} {m0 : Int} {g : Nat → Option Nat} (hg : G a = some (lL m0 d n)) (hv : OB G v) (hva : v ≠ a) (hd : G d = some (aO E n g)) (hn : 2 ≤ n ∧ n ≤ 1000 ∧ n + n / 2 ≤ ms) (hO : ∀ i y : Nat, i < n → g i = some y → OB G y) : MR E l yJx4a65c_add_72be8 cJx4a65c_add_72be8 4 none 5 147 1 ms [.ref a, .ref v, .ref d, .int (i32 (n : Int))] G (fun v' G' => v' = none ∧ ∃ (d' cap' : Nat) (g' : Nat → Option Nat), (d' = d ∨ (G d' = none ∧ d' ≠ a)) ∧ (∀ x, G' x = if x = a then some (lL m0 d' (n + 1)) else if x = d' then some (aO E cap' g') else G x) ∧ n + 1 ≤ cap' ∧ 2 ≤ cap' ∧ cap' ≤ 2000 ∧ (∀ j, j < n → g' j = g j) ∧ g' n = some v) := by
  refine mr_of (own := RJx4a65c) (L := [some (.ref a), some (.ref v), some (.ref d), some (.int (i32 (n : Int)))]) (by decide +kernel) rfl (Nat.le_of_ble_eq_true rfl) (List.forall_mem_cons.mpr ⟨rfl, (List.forall_mem_cons.mpr ⟨rfl, (List.forall_mem_cons.mpr ⟨rfl, (List.forall_mem_cons.mpr ⟨rfl, (fun _ h => absurd h List.not_mem_nil)⟩)⟩)⟩)⟩) rfl ?_
  intro p e s m args below meth c C hin
  obtain ⟨ci, NN, Cn, Tn, fs, v1, v2, v3⟩ := hv
  have hn2 := hn.2.1
  refine y_iload_n 1 C dJx4a65c_add_72be8_0 rfl rfl ?_
  refine y_aload_n 2 C dJx4a65c_add_72be8_1 rfl rfl ?_
  refine y_alen 3 3 C hd rfl dJx4a65c_add_72be8_2 rfl ?_
  refine y_icmp_ne 6 11 C dJx4a65c_add_72be8_3 rfl (by decide) (by first | assumption | omega | exact ⟨by omega, by omega⟩) (by first | assumption | omega | exact ⟨by omega, by omega⟩) (fun h3 => ?_) (fun h3 => ?_)
  · skip
    exact absurd h3 (by omega)
  · skip
    refine y_aload_n 7 C dJx4a65c_add_72be8_6 rfl rfl ?_
    refine y_callV (As := []) 10 2 0 0 C vw_Jx4a65c_129 iw_Jx4a65c_grow_d5877 sw_Jx4a65c_grow_d5877 (j_Jx4a65c_grow_d5877A hg hd hn hO) dJx4a65c_add_72be8_7 rfl rfl rfl rfl rfl hg ⟨Nat.le_of_ble_eq_true rfl, Nat.le_of_ble_eq_true rfl⟩ (Nat.le_of_ble_eq_true rfl) ⟨by omega, by omega⟩ (fun v G' hq => ?_)
    obtain ⟨q, cap, g1, q1, q2, rfl, q3, q4, q5, q6, q7⟩ := hq
    have hvq : v ≠ q := fun z => by rw [z, q1] at v1; cases v1
    have hGq : G' q = some (aO E cap g1) := (q3 q).trans (by rw [if_neg q2, if_pos rfl])
    have hGa : G' a = some (lL m0 q n) := (q3 a).trans (if_pos rfl)
    have hGv : G' v = some (.inr (ci, fs)) := (q3 v).trans (by rw [if_neg hva, if_neg hvq]; exact v1)
    refine y_astore_n 11 C dJx4a65c_add_72be8_10 rfl rfl rfl ?_
    refine y_aload_n 12 C dJx4a65c_add_72be8_11 rfl rfl ?_
    refine y_iload_n 13 C dJx4a65c_add_72be8_12 rfl rfl ?_
    refine y_aload_n 14 C dJx4a65c_add_72be8_13 rfl rfl ?_
    refine y_aast (G' := va_up G' q (some (aO E cap (va_up g1 n (some v))))) 15 C hGq hGv v2 v3 ⟨by omega, by omega, by omega⟩ dJx4a65c_add_72be8_14 rfl rfl ?_
    refine y_aload_n 16 C dJx4a65c_add_72be8_15 rfl rfl ?_
    refine y_iload_n 17 C dJx4a65c_add_72be8_16 rfl rfl ?_
    refine y_iconst 18 C dJx4a65c_add_72be8_17 rfl ?_
    refine y_iadd 19 C dJx4a65c_add_72be8_18 rfl ?_
    refine y_putf (G' := va_up (va_up G' q (some (aO E cap (va_up g1 n (some v))))) a (some (lL m0 q (n + 1)))) 22 0 C fw_Jx4a65c_48 ((up_n q2.symm).trans hGa) (Nat.le_of_ble_eq_true rfl) fits_int dJx4a65c_add_72be8_19 rfl rfl ?_
    exact y_ret C dJx4a65c_add_72be8_22 ⟨rfl, q, cap, va_up g1 n (some v), Or.inr ⟨q1, q2⟩, fun x => by unfold va_up; exact (if hx : x = a then (by simp [hx]) else (by (exact (if hy : x = q then (by simp [hy, q2]) else (by simp [hx, hy, q3]))))), q4, q5, q6, fun j hj => by unfold va_up; rw [if_neg (by omega)]; exact q7 j hj, by unfold va_up; rw [if_pos rfl]⟩
set_option maxHeartbeats 4000000 in
set_option maxRecDepth 100000 in
theorem j_Jx4a65c_add_72be8E {E : EV} {l : Launch} {G : FT} {a v d n ms : Nat} {m0 : Int} {g : Nat → Option Nat} (hg : G a = some (lL m0 d n)) (hv : OB G v) (hva : v ≠ a) (hd : d = E.2.2.2) (hn : n = 0 ∧ 10 ≤ ms) : MR E l yJx4a65c_add_72be8 cJx4a65c_add_72be8 4 none 5 147 1 ms [.ref a, .ref v, .ref d, .int (i32 (n : Int))] G (fun v' G' => v' = none ∧ ∃ (d' cap' : Nat) (g' : Nat → Option Nat), (d' = d ∨ (G d' = none ∧ d' ≠ a)) ∧ (∀ x, G' x = if x = a then some (lL m0 d' (n + 1)) else if x = d' then some (aO E cap' g') else G x) ∧ n + 1 ≤ cap' ∧ 2 ≤ cap' ∧ cap' ≤ 2000 ∧ (∀ j, j < n → g' j = g j) ∧ g' n = some v) := by
  refine mr_of (own := RJx4a65c) (L := [some (.ref a), some (.ref v), some (.ref d), some (.int (i32 (n : Int)))]) (by decide +kernel) rfl (Nat.le_of_ble_eq_true rfl) (List.forall_mem_cons.mpr ⟨rfl, (List.forall_mem_cons.mpr ⟨rfl, (List.forall_mem_cons.mpr ⟨rfl, (List.forall_mem_cons.mpr ⟨rfl, (fun _ h => absurd h List.not_mem_nil)⟩)⟩)⟩)⟩) rfl ?_
  intro p e s m args below meth c C hin
  obtain ⟨ci, NN, Cn, Tn, fs, v1, v2, v3⟩ := hv
  subst hd
  have hn0 := hn.1
  subst hn0
  refine y_iload_n 1 C dJx4a65c_add_72be8_0 rfl rfl ?_
  refine y_aload_n 2 C dJx4a65c_add_72be8_1 rfl rfl ?_
  refine y_alenE 3 C dJx4a65c_add_72be8_2 rfl ?_
  refine y_icmp_ne 6 11 C dJx4a65c_add_72be8_3 rfl (by decide) (by first | assumption | omega | exact ⟨by omega, by omega⟩) (by first | assumption | omega | exact ⟨by omega, by omega⟩) (fun h3 => ?_) (fun h3 => ?_)
  · skip
    exact absurd h3 (by simp)
  · skip
    refine y_aload_n 7 C dJx4a65c_add_72be8_6 rfl rfl ?_
    refine y_callV (As := []) 10 2 0 0 C vw_Jx4a65c_129 iw_Jx4a65c_grow_d5877 sw_Jx4a65c_grow_d5877 (j_Jx4a65c_grow_d5877E (g := g) hg hn) dJx4a65c_add_72be8_7 rfl rfl rfl rfl rfl hg ⟨Nat.le_of_ble_eq_true rfl, Nat.le_of_ble_eq_true rfl⟩ (Nat.le_of_ble_eq_true rfl) ⟨by omega, by omega⟩ (fun v G' hq => ?_)
    obtain ⟨q, cap, g1, q1, q2, rfl, q3, q4, q5, q6, q7⟩ := hq
    have hvq : v ≠ q := fun z => by rw [z, q1] at v1; cases v1
    have hGq : G' q = some (aO E cap g1) := (q3 q).trans (by rw [if_neg q2, if_pos rfl])
    have hGa : G' a = some (lL m0 q 0) := (q3 a).trans (if_pos rfl)
    have hGv : G' v = some (.inr (ci, fs)) := (q3 v).trans (by rw [if_neg hva, if_neg hvq]; exact v1)
    refine y_astore_n 11 C dJx4a65c_add_72be8_10 rfl rfl rfl ?_
    refine y_aload_n 12 C dJx4a65c_add_72be8_11 rfl rfl ?_
    refine y_iload_n 13 C dJx4a65c_add_72be8_12 rfl rfl ?_
    refine y_aload_n 14 C dJx4a65c_add_72be8_13 rfl rfl ?_
    refine y_aast (G' := va_up G' q (some (aO E cap (va_up g1 0 (some v))))) 15 C hGq hGv v2 v3 ⟨by omega, by omega, by omega⟩ dJx4a65c_add_72be8_14 rfl rfl ?_
    refine y_aload_n 16 C dJx4a65c_add_72be8_15 rfl rfl ?_
    refine y_iload_n 17 C dJx4a65c_add_72be8_16 rfl rfl ?_
    refine y_iconst 18 C dJx4a65c_add_72be8_17 rfl ?_
    refine y_iadd 19 C dJx4a65c_add_72be8_18 rfl ?_
    refine y_putf (G' := va_up (va_up G' q (some (aO E cap (va_up g1 0 (some v))))) a (some (lL m0 q (0 + 1)))) 22 0 C fw_Jx4a65c_48 ((up_n q2.symm).trans hGa) (Nat.le_of_ble_eq_true rfl) fits_int dJx4a65c_add_72be8_19 rfl rfl ?_
    exact y_ret C dJx4a65c_add_72be8_22 ⟨rfl, q, cap, va_up g1 0 (some v), Or.inr ⟨q1, q2⟩, fun x => by unfold va_up; exact (if hx : x = a then (by simp [hx]) else (by (exact (if hy : x = q then (by simp [hy, q2]) else (by simp [hx, hy, q3]))))), q4, q5, q6, fun j hj => by unfold va_up; rw [if_neg (by omega)]; exact q7 j hj, by unfold va_up; rw [if_pos rfl]⟩
/-- add(E, Object[], int), in every case -/
theorem j_add3 {E : EV} {l : Launch} {G : FT} {a v d n cap ms : Nat} {m0 : Int} {g : Nat → Option Nat} (hg : G a = some (lL m0 d n)) (hv : OB G v) (hva : v ≠ a) (hc : (n = 0 ∧ d = E.2.2.2) ∨ (G d = some (aO E cap g) ∧ n ≤ cap ∧ 2 ≤ cap ∧ cap ≤ 2000 ∧ ∀ i y : Nat, i < n → g i = some y → OB G y)) (hn : n ≤ 1000 ∧ 10 ≤ ms ∧ n + n / 2 ≤ ms) :
    MR E l yJx4a65c_add_72be8 cJx4a65c_add_72be8 4 none 5 147 1 ms [.ref a, .ref v, .ref d, .int (i32 (n : Int))] G (fun v' G' => v' = none ∧ ∃ (d' cap' : Nat) (g' : Nat → Option Nat), (d' = d ∨ (G d' = none ∧ d' ≠ a)) ∧ (∀ x, G' x = if x = a then some (lL m0 d' (n + 1)) else if x = d' then some (aO E cap' g') else G x) ∧ n + 1 ≤ cap' ∧ 2 ≤ cap' ∧ cap' ≤ 2000 ∧ (∀ j, j < n → g' j = g j) ∧ g' n = some v) := by
  rcases hc with ⟨h1, h2⟩ | ⟨h1, h2, h3, h4, h5⟩
  · exact j_Jx4a65c_add_72be8E hg hv hva h2 ⟨h1, hn.2.1⟩
  · by_cases hcn : n = cap
    · subst hcn
      exact j_Jx4a65c_add_72be8A hg hv hva h1 ⟨h3, hn.1, hn.2.2⟩ h5
    · have hmx := j_Jx4a65c_add_72be8N (l := l) (ms := ms) hg hv hva h1 ⟨by omega, h3, h4⟩
      exact hmx
set_option maxHeartbeats 4000000 in
set_option maxRecDepth 100000 in
theorem j_Jx4a65c_add_9ea2d {E : EV} {l : Launch} {G : FT} {a v d n cap ms : Nat} {m0 : Int} {g : Nat → Option Nat} (hg : G a = some (lL m0 d n)) (hv : OB G v) (hva : v ≠ a) (hc : (n = 0 ∧ d = E.2.2.2) ∨ (G d = some (aO E cap g) ∧ n ≤ cap ∧ 2 ≤ cap ∧ cap ≤ 2000 ∧ ∀ i y : Nat, i < n → g i = some y → OB G y ∧ y ≠ a)) (hn : n ≤ 1000 ∧ 10 ≤ ms ∧ n + n / 2 ≤ ms) : MR E l yJx4a65c_add_9ea2d cJx4a65c_add_9ea2d 2 (some .boolean) 6 170 1 ms [.ref a, .ref v] G (fun v' G' => v' = some (.int (i32 1)) ∧ ∃ (d' cap' : Nat) (g' : Nat → Option Nat), (d' = d ∨ (G d' = none ∧ d' ≠ a)) ∧ (∀ x, G' x = if x = a then some (lL (m0 + 1) d' (n + 1)) else if x = d' then some (aO E cap' g') else G x) ∧ n + 1 ≤ cap' ∧ 2 ≤ cap' ∧ cap' ≤ 2000 ∧ (∀ j, j < n → g' j = g j) ∧ g' n = some v) := by
  refine mr_of (own := RJx4a65c) (L := [some (.ref a), some (.ref v)]) (by decide +kernel) rfl (Nat.le_of_ble_eq_true rfl) (List.forall_mem_cons.mpr ⟨rfl, (List.forall_mem_cons.mpr ⟨rfl, (fun _ h => absurd h List.not_mem_nil)⟩)⟩) rfl ?_
  intro p e s m args below meth c C hin
  refine y_aload_n 1 C dJx4a65c_add_9ea2d_0 rfl rfl ?_
  refine y_dup 2 C dJx4a65c_add_9ea2d_1 rfl rfl ?_
  refine y_getM 5 C cw_2 fl2_63 hg rfl dJx4a65c_add_9ea2d_2 rfl ?_
  refine y_iconst 6 C dJx4a65c_add_9ea2d_5 rfl ?_
  refine y_iadd 7 C dJx4a65c_add_9ea2d_6 rfl ?_
  refine y_putM (G' := va_up G a (some (lL (m0 + 1) d n))) 10 C cw_2 fl2_63 hg (Nat.le_of_ble_eq_true rfl) dJx4a65c_add_9ea2d_7 rfl rfl ?_
  have hc1 : (n = 0 ∧ d = E.2.2.2) ∨ (va_up G a (some (lL (m0 + 1) d n)) d = some (aO E cap g) ∧ n ≤ cap ∧ 2 ≤ cap ∧ cap ≤ 2000 ∧ ∀ i y : Nat, i < n → g i = some y → OB (va_up G a (some (lL (m0 + 1) d n))) y) := by
    rcases hc with h | ⟨h1, h2, h3, h4, h5⟩
    · exact Or.inl h
    · have hda : d ≠ a := fun z => by rw [z, hg] at h1; cases h1
      exact Or.inr ⟨(up_n hda).trans h1, h2, h3, h4, fun i y hi hy => OB_up (h5 i y hi hy).1 (h5 i y hi hy).2⟩
  refine y_aload_n 11 C dJx4a65c_add_9ea2d_10 rfl rfl ?_
  refine y_aload_n 12 C dJx4a65c_add_9ea2d_11 rfl rfl ?_
  refine y_aload_n 13 C dJx4a65c_add_9ea2d_12 rfl rfl ?_
  refine y_getf 16 C fr_Jx4a65c_9 up_s rfl dJx4a65c_add_9ea2d_13 rfl ?_
  refine y_aload_n 17 C dJx4a65c_add_9ea2d_16 rfl rfl ?_
  refine y_getf 20 C fr_Jx4a65c_48 up_s rfl dJx4a65c_add_9ea2d_17 rfl ?_
  refine y_callV (As := [_, _, _]) 23 2 0 0 C vw_Jx4a65c_131 iw_Jx4a65c_add_72be8 sw_Jx4a65c_add_72be8 (j_add3 up_s (OB_up hv hva) hva hc1 hn) dJx4a65c_add_9ea2d_20 rfl rfl rfl rfl rfl up_s ⟨Nat.le_of_ble_eq_true rfl, Nat.le_of_ble_eq_true rfl⟩ (Nat.le_of_ble_eq_true rfl) ⟨by omega, by omega⟩ (fun v G' hq => ?_)
  obtain ⟨rfl, d1, cap1, g1, w1, w2, w3⟩ := hq
  refine y_as rfl rfl rfl ?_
  refine y_iconst 24 C dJx4a65c_add_9ea2d_23 rfl ?_
  exact y_iret C dJx4a65c_add_9ea2d_24 rfl ⟨rfl, d1, cap1, g1, w1.imp id (fun z => ⟨(up_n z.2).symm.trans z.1, z.2⟩), fun x => by rw [w2 x]; exact (if hx : x = a then (by rw [if_pos hx, if_pos hx]) else (by rw [if_neg hx, if_neg hx, up_n hx])), w3⟩
set_option maxHeartbeats 4000000 in
set_option maxRecDepth 100000 in
theorem j_Jx4a65c_fastRemove_b59b0 {E : EV} {l : Launch} {G : FT} {a d n i cap : Nat} {m0 : Int} {g : Nat → Option Nat} (hg : G a = some (lL m0 d n)) (hd : G d = some (aO E cap g)) (hn : i < n ∧ n ≤ cap ∧ cap ≤ 2000) (hO : ∀ i y : Nat, i < n → g i = some y → OB G y ∧ y ≠ a) : MR E l yJx4a65c_fastRemove_b59b0 cJx4a65c_fastRemove_b59b0 4 none 1 60 0 0 [.ref a, .ref d, .int (i32 (i : Int))] G (fun v' G' => v' = none ∧ ∃ g' : Nat → Option Nat, (∀ x, G' x = if x = a then some (lL (m0 + 1) d ((n : Int) - 1)) else if x = d then some (aO E cap g') else G x) ∧ ∀ j, j + 1 < n → g' j = if j < i then g j else g (j + 1)) := by
  refine mr_of (own := RJx4a65c) (L := [some (.ref a), some (.ref d), some (.int (i32 (i : Int))), none]) (by decide +kernel) rfl (Nat.le_of_ble_eq_true rfl) (List.forall_mem_cons.mpr ⟨rfl, (List.forall_mem_cons.mpr ⟨rfl, (List.forall_mem_cons.mpr ⟨rfl, (fun _ h => absurd h List.not_mem_nil)⟩)⟩)⟩) rfl ?_
  intro p e s m args below meth c C hin
  obtain ⟨n1, n2, n3⟩ := hn
  have had : a ≠ d := fun z => by rw [z, hd] at hg; cases hg
  refine y_aload_n 1 C dJx4a65c_fastRemove_b59b0_0 rfl rfl ?_
  refine y_dup 2 C dJx4a65c_fastRemove_b59b0_1 rfl rfl ?_
  refine y_getM 5 C cw_2 fl2_63 hg rfl dJx4a65c_fastRemove_b59b0_2 rfl ?_
  refine y_iconst 6 C dJx4a65c_fastRemove_b59b0_5 rfl ?_
  refine y_iadd 7 C dJx4a65c_fastRemove_b59b0_6 rfl ?_
  refine y_putM (G' := va_up G a (some (lL (m0 + 1) d n))) 10 C cw_2 fl2_63 hg (Nat.le_of_ble_eq_true rfl) dJx4a65c_fastRemove_b59b0_7 rfl rfl ?_
  have hd1 := (up_n (e := some (lL (m0 + 1) d n)) had.symm).trans hd
  refine y_join (α := FT × (Nat → Option Nat)) 34 (fun z => (∀ x, z.1 x = if x = a then some (lL (m0 + 1) d n) else if x = d then some (aO E cap z.2) else G x) ∧ ∀ j, j + 1 < n → z.2 j = if j < i then g j else g (j + 1)) (fun z => z.1) (fun _ => [some (.ref a), some (.ref d), some (.int (i32 (i : Int))), some (.int (i32 ((n : Int) - 1)))]) (fun _ => []) (fun zz hz => ?_) (fun hJ => ?_)
  · skip
    obtain ⟨G2, g2⟩ := zz
    (try dsimp only at hz); (try dsimp only)
    obtain ⟨z1, z2⟩ := hz
    have hGa : G2 a = some (lL (m0 + 1) d n) := (z1 a).trans (if_pos rfl)
    have hGd : G2 d = some (aO E cap g2) := (z1 d).trans (by rw [if_neg had.symm, if_pos rfl])
    refine y_aload_n 35 C dJx4a65c_fastRemove_b59b0_34 rfl rfl ?_
    refine y_aload_n 36 C dJx4a65c_fastRemove_b59b0_35 rfl rfl ?_
    refine y_iload_n 37 C dJx4a65c_fastRemove_b59b0_36 rfl rfl ?_
    refine y_dup_x1 38 C dJx4a65c_fastRemove_b59b0_37 rfl rfl rfl ?_
    refine y_putf (G' := va_up G2 a (some (lL (m0 + 1) d ((n : Int) - 1)))) 41 0 C fw_Jx4a65c_48 hGa (Nat.le_of_ble_eq_true rfl) fits_int dJx4a65c_fastRemove_b59b0_38 rfl rfl ?_
    refine y_null 42 C dJx4a65c_fastRemove_b59b0_41 rfl ?_
    refine y_aastN (G' := va_up (va_up G2 a (some (lL (m0 + 1) d ((n : Int) - 1)))) d (some (aO E cap (va_up g2 ((n : Int) - 1).toNat none)))) 43 C ((up_n had.symm).trans hGd) ⟨by omega, by omega, by omega⟩ dJx4a65c_fastRemove_b59b0_42 rfl rfl ?_
    exact y_ret C dJx4a65c_fastRemove_b59b0_43 ⟨rfl, va_up g2 ((n : Int) - 1).toNat none, fun x => (up2 had).trans (if hx : x = a then (by rw [if_pos hx, if_pos hx]) else (by rw [if_neg hx, if_neg hx]; exact (if hy : x = d then (by rw [if_pos hy, if_pos hy]) else (by rw [if_neg hy, if_neg hy, z1 x, if_neg hx, if_neg hy])))), fun j hj => (show va_up g2 ((n : Int) - 1).toNat none j = g2 j from if_neg (by omega)).trans (z2 j hj)⟩
  · skip
    refine y_aload_n 11 C dJx4a65c_fastRemove_b59b0_10 rfl rfl ?_
    refine y_getf 14 C fr_Jx4a65c_48 up_s rfl dJx4a65c_fastRemove_b59b0_11 rfl ?_
    refine y_iconst 15 C dJx4a65c_fastRemove_b59b0_14 rfl ?_
    refine y_isub 16 C dJx4a65c_fastRemove_b59b0_15 rfl ?_
    refine y_dup 17 C dJx4a65c_fastRemove_b59b0_16 rfl rfl ?_
    refine y_istore_n 18 C dJx4a65c_fastRemove_b59b0_17 rfl rfl rfl ?_
    refine y_iload_n 19 C dJx4a65c_fastRemove_b59b0_18 rfl rfl ?_
    refine y_icmp_le 22 34 C dJx4a65c_fastRemove_b59b0_19 rfl (by decide) (by first | assumption | omega | exact ⟨by omega, by omega⟩) (by first | assumption | omega | exact ⟨by omega, by omega⟩) (fun h19 => ?_) (fun h19 => ?_)
    · skip
      exact hJ (_, g) ⟨fun x => by (try dsimp only); exact up1.trans (if hx : x = a then (by rw [if_pos hx, if_pos hx]) else (by rw [if_neg hx, if_neg hx]; exact (if hy : x = d then (by rw [if_pos hy, hy, hd]) else (by rw [if_neg hy])))), fun j hj => by (try dsimp only); rw [if_pos (by omega)]⟩
    · skip
      refine y_aload_n 23 C dJx4a65c_fastRemove_b59b0_22 rfl rfl ?_
      refine y_iload_n 24 C dJx4a65c_fastRemove_b59b0_23 rfl rfl ?_
      refine y_iconst 25 C dJx4a65c_fastRemove_b59b0_24 rfl ?_
      refine y_iadd 26 C dJx4a65c_fastRemove_b59b0_25 rfl ?_
      refine y_aload_n 27 C dJx4a65c_fastRemove_b59b0_26 rfl rfl ?_
      refine y_iload_n 28 C dJx4a65c_fastRemove_b59b0_27 rfl rfl ?_
      refine y_iload_n 29 C dJx4a65c_fastRemove_b59b0_28 rfl rfl ?_
      refine y_iload_n 30 C dJx4a65c_fastRemove_b59b0_29 rfl rfl ?_
      refine y_isub 31 C dJx4a65c_fastRemove_b59b0_30 rfl ?_
      refine y_copyO (sp := i + 1) (dp := i) (k0 := n - 1 - i) (G' := va_up (va_up G a (some (lL (m0 + 1) d n))) d (some (aO E cap (va_cpy g g (i + 1) i (n - 1 - i))))) 34 C ys_Jx112 hd1 hd1 ⟨by omega, by omega, by omega⟩ ⟨by omega, by omega, by omega, by omega⟩ (fun j y hj hy => ?_) ⟨Nat.le_of_ble_eq_true rfl, Nat.le_of_ble_eq_true rfl⟩ dJx4a65c_fastRemove_b59b0_31 rfl rfl ?_
      · exact OB_up (hO (i + 1 + j) y (by omega) hy).1 (hO (i + 1 + j) y (by omega) hy).2
      exact hJ (_, va_cpy g g (i + 1) i (n - 1 - i)) ⟨fun x => by (try dsimp only); exact up2 had, fun j hj => by (try dsimp only); unfold va_cpy; exact (if hji : j < i then (by rw [if_neg (by omega), if_pos hji]) else (by rw [if_pos (by omega), if_neg hji, show i + 1 + (j - i) = j + 1 by omega]))⟩
set_option maxHeartbeats 4000000 in
set_option maxRecDepth 100000 in
theorem j_Jx4a65c_remove_915e3 {E : EV} {l : Launch} {G : FT} {a d n i cap : Nat} {m0 : Int} {g : Nat → Option Nat} (hg : G a = some (lL m0 d n)) (hd : G d = some (aO E cap g)) (hn : i < n ∧ n ≤ cap ∧ cap ≤ 2000) (hO : ∀ i y : Nat, i < n → g i = some y → OB G y ∧ y ≠ a) : MR E l yJx4a65c_remove_915e3 cJx4a65c_remove_915e3 4 (some (.object "java/lang/Object")) 2 83 0 0 [.ref a, .int (i32 (i : Int))] G (fun v' G' => v' = some (va_rf (g i)) ∧ ∃ g' : Nat → Option Nat, (∀ x, G' x = if x = a then some (lL (m0 + 1) d ((n : Int) - 1)) else if x = d then some (aO E cap g') else G x) ∧ ∀ j, j + 1 < n → g' j = if j < i then g j else g (j + 1)) := by
  refine mr_of (own := RJx4a65c) (L := [some (.ref a), some (.int (i32 (i : Int))), none, none]) (by decide +kernel) rfl (Nat.le_of_ble_eq_true rfl) (List.forall_mem_cons.mpr ⟨rfl, (List.forall_mem_cons.mpr ⟨rfl, (fun _ h => absurd h List.not_mem_nil)⟩)⟩) rfl ?_
  intro p e s m args below meth c C hin
  have hn1 := hn.1
  have hn2 := hn.2.1
  have hn3 := hn.2.2
  refine y_iload_n 1 C dJx4a65c_remove_915e3_0 rfl rfl ?_
  refine y_aload_n 2 C dJx4a65c_remove_915e3_1 rfl rfl ?_
  refine y_getf 5 C fr_Jx4a65c_48 hg rfl dJx4a65c_remove_915e3_2 rfl ?_
  refine y_callS (As := [_, _]) 8 _ _ C vw_Jx4a65c_118 tw_J15_checkIndex_7cf53 (j_J15_checkIndex_7cf53 ⟨by omega, by omega, by omega⟩) dJx4a65c_remove_915e3_5 rfl rfl rfl ⟨Nat.le_of_ble_eq_true rfl, Nat.le_of_ble_eq_true rfl⟩ (Nat.le_of_ble_eq_true rfl) ⟨Nat.le_refl _, Nat.le_refl _⟩ (fun v G' hq => ?_)
  obtain ⟨rfl, rfl⟩ := hq
  refine y_as rfl rfl rfl ?_
  refine y_pop 9 C dJx4a65c_remove_915e3_8 rfl rfl ?_
  refine y_aload_n 10 C dJx4a65c_remove_915e3_9 rfl rfl ?_
  refine y_getf 13 C fr_Jx4a65c_9 hg rfl dJx4a65c_remove_915e3_10 rfl ?_
  refine y_astore_n 14 C dJx4a65c_remove_915e3_13 rfl rfl rfl ?_
  refine y_aload_n 15 C dJx4a65c_remove_915e3_14 rfl rfl ?_
  refine y_iload_n 16 C dJx4a65c_remove_915e3_15 rfl rfl ?_
  refine y_aald 17 C hd ⟨by omega, by omega, by omega⟩ dJx4a65c_remove_915e3_16 rfl ?_
  refine y_astore_nq 18 C dJx4a65c_remove_915e3_17 rfl rfl rfl ?_
  refine y_aload_n 19 C dJx4a65c_remove_915e3_18 rfl rfl ?_
  refine y_aload_n 20 C dJx4a65c_remove_915e3_19 rfl rfl ?_
  refine y_iload_n 21 C dJx4a65c_remove_915e3_20 rfl rfl ?_
  refine y_callV (As := [_, _]) 24 2 _ _ C vw_Jx4a65c_144 iw_Jx4a65c_fastRemove_b59b0 sw_Jx4a65c_fastRemove_b59b0 (j_Jx4a65c_fastRemove_b59b0 hg hd hn hO) dJx4a65c_remove_915e3_21 rfl rfl rfl rfl rfl hg ⟨Nat.le_of_ble_eq_true rfl, Nat.le_of_ble_eq_true rfl⟩ (Nat.le_of_ble_eq_true rfl) ⟨Nat.le_refl _, Nat.le_refl _⟩ (fun v G' hq => ?_)
  obtain ⟨rfl, g1, w1, w2⟩ := hq
  refine y_as rfl rfl rfl ?_
  refine y_aload_nq 25 C dJx4a65c_remove_915e3_24 rfl rfl ?_
  exact y_aret C dJx4a65c_remove_915e3_25 rfl ⟨rfl, g1, w1, w2⟩
set_option maxHeartbeats 4000000 in
set_option maxRecDepth 100000 in
theorem j_Jx4a65c_set_bcc79 {E : EV} {l : Launch} {G : FT} {a d v n i cap : Nat} {m0 : Int} {g : Nat → Option Nat} (hg : G a = some (lL m0 d n)) (hd : G d = some (aO E cap g)) (hn : i < n ∧ n ≤ cap ∧ cap ≤ 2000) (hv : OB G v) : MR E l yJx4a65c_set_bcc79 cJx4a65c_set_bcc79 4 (some (.object "java/lang/Object")) 2 43 0 0 [.ref a, .int (i32 (i : Int)), .ref v] G (fun v' G' => v' = some (va_rf (g i)) ∧ G' = va_up G d (some (aO E cap (va_up g i (some v))))) := by
  refine mr_of (own := RJx4a65c) (L := [some (.ref a), some (.int (i32 (i : Int))), some (.ref v), none]) (by decide +kernel) rfl (Nat.le_of_ble_eq_true rfl) (List.forall_mem_cons.mpr ⟨rfl, (List.forall_mem_cons.mpr ⟨rfl, (List.forall_mem_cons.mpr ⟨rfl, (fun _ h => absurd h List.not_mem_nil)⟩)⟩)⟩) rfl ?_
  intro p e s m args below meth c C hin
  have hn1 := hn.1
  have hn2 := hn.2.1
  have hn3 := hn.2.2
  obtain ⟨ci, NN, Cn, Tn, fs, v1, v2, v3⟩ := hv
  refine y_iload_n 1 C dJx4a65c_set_bcc79_0 rfl rfl ?_
  refine y_aload_n 2 C dJx4a65c_set_bcc79_1 rfl rfl ?_
  refine y_getf 5 C fr_Jx4a65c_48 hg rfl dJx4a65c_set_bcc79_2 rfl ?_
  refine y_callS (As := [_, _]) 8 _ _ C vw_Jx4a65c_118 tw_J15_checkIndex_7cf53 (j_J15_checkIndex_7cf53 ⟨by omega, by omega, by omega⟩) dJx4a65c_set_bcc79_5 rfl rfl rfl ⟨Nat.le_of_ble_eq_true rfl, Nat.le_of_ble_eq_true rfl⟩ (Nat.le_of_ble_eq_true rfl) ⟨Nat.le_refl _, Nat.le_refl _⟩ (fun v G' hq => ?_)
  obtain ⟨rfl, rfl⟩ := hq
  refine y_as rfl rfl rfl ?_
  refine y_pop 9 C dJx4a65c_set_bcc79_8 rfl rfl ?_
  refine y_aload_n 10 C dJx4a65c_set_bcc79_9 rfl rfl ?_
  refine y_iload_n 11 C dJx4a65c_set_bcc79_10 rfl rfl ?_
  refine y_callV (As := [_]) 14 2 _ _ C vw_Jx4a65c_123 iw_Jx4a65c_elementData_915e3 sw_Jx4a65c_elementData_915e3 (j_Jx4a65c_elementData_915e3 (i := (i : Int)) hg hd ⟨by omega, by omega, by omega⟩) dJx4a65c_set_bcc79_11 rfl rfl rfl rfl rfl hg ⟨Nat.le_of_ble_eq_true rfl, Nat.le_of_ble_eq_true rfl⟩ (Nat.le_of_ble_eq_true rfl) ⟨Nat.le_refl _, Nat.le_refl _⟩ (fun v G' hq => ?_)
  obtain ⟨rfl, rfl⟩ := hq
  refine y_as rfl rfl rfl ?_
  refine y_astore_nq 15 C dJx4a65c_set_bcc79_14 rfl rfl rfl ?_
  refine y_aload_n 16 C dJx4a65c_set_bcc79_15 rfl rfl ?_
  refine y_getf 19 C fr_Jx4a65c_9 hg rfl dJx4a65c_set_bcc79_16 rfl ?_
  refine y_iload_n 20 C dJx4a65c_set_bcc79_19 rfl rfl ?_
  refine y_aload_n 21 C dJx4a65c_set_bcc79_20 rfl rfl ?_
  refine y_aast (G' := va_up G d (some (aO E cap (va_up g i (some v))))) 22 C hd v1 v2 v3 ⟨by omega, by omega, by omega⟩ dJx4a65c_set_bcc79_21 rfl rfl ?_
  refine y_aload_nq 23 C dJx4a65c_set_bcc79_22 rfl rfl ?_
  exact y_aret C dJx4a65c_set_bcc79_23 rfl ⟨rfl, rfl⟩
