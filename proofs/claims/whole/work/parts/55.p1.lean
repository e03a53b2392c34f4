/-! rows laid by program (wip/tools/genp.py) -/
theorem rIsPath_t {x : Int} : rIsPath x = true ↔ (x = 0 ∨ (1 ≤ x ∧ x ≤ 999 ∧ 0 < x % 10 ∧ (x < 10 ∨ 0 < x / 10 % 10))) := by
  simp [rIsPath, rLies, and_assoc]
theorem rIsPath_f {x : Int} (h : ¬ (x = 0 ∨ (1 ≤ x ∧ x ≤ 999 ∧ 0 < x % 10 ∧ (x < 10 ∨ 0 < x / 10 % 10)))) : rIsPath x = false := by
  cases q : rIsPath x
  · rfl
  · exact absurd (rIsPath_t.mp q) h
theorem rMany_c (w : Int) : (99 < w ∧ rMany w = 3) ∨ (9 < w ∧ w ≤ 99 ∧ rMany w = 2) ∨ (0 < w ∧ w ≤ 9 ∧ rMany w = 1) ∨ (w ≤ 0 ∧ rMany w = 0) := by
  unfold rMany
  split
  · exact Or.inl ⟨by omega, rfl⟩
  · split
    · exact Or.inr (Or.inl ⟨by omega, by omega, rfl⟩)
    · split
      · exact Or.inr (Or.inr (Or.inl ⟨by omega, by omega, rfl⟩))
      · exact Or.inr (Or.inr (Or.inr ⟨by omega, rfl⟩))
theorem rBegins_t {w q : Int} (hw : 0 ≤ w ∧ w ≤ 999) (hq : 0 ≤ q ∧ q ≤ 999) : rBegins w q = true ↔ (q = w ∨ q / 10 = w ∨ q / 100 = w ∨ w = 0) := by
  have m1 := rMany_c w
  have m2 := rMany_c q
  unfold rBegins
  rw [decide_eq_true_eq]
  have hk : (rMany q - rMany w).toNat = 0 ∨ (rMany q - rMany w).toNat = 1 ∨ (rMany q - rMany w).toNat = 2 ∨ (rMany q - rMany w).toNat = 3 := by omega
  rcases hk with e | e | e | e <;> rw [e]
  · show q = w ↔ _
    omega
  · show q / 10 = w ↔ _
    omega
  · show q / 10 / 10 = w ↔ _
    omega
  · show q / 10 / 10 / 10 = w ↔ _
    omega
theorem rBegins_f {w q : Int} (hw : 0 ≤ w ∧ w ≤ 999) (hq : 0 ≤ q ∧ q ≤ 999) (h : ¬ (q = w ∨ q / 10 = w ∨ q / 100 = w ∨ w = 0)) : rBegins w q = false := by
  cases c : rBegins w q
  · rfl
  · exact absurd ((rBegins_t hw hq).mp c) h
theorem rIsRef_t {x : Int} : rIsRef x = true ↔ ((1 ≤ x ∧ x ≤ 2) ∨ (10 ≤ x ∧ x ≤ 29) ∨ (100 ≤ x ∧ x ≤ 299) ∨ (1000 ≤ x ∧ x ≤ 2999) ∨ (10000 ≤ x ∧ x ≤ 29999)) := by
  simp [rIsRef, rLies]
theorem rIsRef_f {x : Int} (h : ¬ ((1 ≤ x ∧ x ≤ 2) ∨ (10 ≤ x ∧ x ≤ 29) ∨ (100 ≤ x ∧ x ≤ 299) ∨ (1000 ≤ x ∧ x ≤ 2999) ∨ (10000 ≤ x ∧ x ≤ 29999))) : rIsRef x = false := by
  cases c : rIsRef x
  · rfl
  · exact absurd (rIsRef_t.mp c) h
theorem rPw_c {x : Int} (h : rIsRef x = true) : (1 ≤ x ∧ x ≤ 2 ∧ rPw x = 1) ∨ (10 ≤ x ∧ x ≤ 29 ∧ rPw x = 10) ∨ (100 ≤ x ∧ x ≤ 299 ∧ rPw x = 100) ∨ (1000 ≤ x ∧ x ≤ 2999 ∧ rPw x = 1000) ∨ (10000 ≤ x ∧ x ≤ 29999 ∧ rPw x = 10000) := by
  have h := rIsRef_t.mp h
  unfold rPw
  rcases h with h | h | h | h | h
  · rw [if_pos (by omega)]; omega
  · rw [if_neg (by omega), if_pos (by omega)]; omega
  · rw [if_neg (by omega), if_neg (by omega), if_pos (by omega)]; omega
  · rw [if_neg (by omega), if_neg (by omega), if_neg (by omega), if_pos (by omega)]; omega
  · rw [if_neg (by omega), if_neg (by omega), if_neg (by omega), if_neg (by omega)]; omega
set_option maxHeartbeats 2000000 in
set_option maxRecDepth 100000 in
theorem c_X11_isPath {E : EV} {l : Launch} {G : GT} {x : Int} (hx : InR x) : MT E l yX11_isPath cX11_isPath 3 (some .boolean) 0 0 0 0 [.int (i32 x)] G (pD (some (.int (i32 (bI (rIsPath x))))) (G)) := by
  refine mt_of (own := RX11) (L := [some (.int (i32 x)), none, none]) (by decide +kernel) rfl (Nat.le_of_ble_eq_true rfl) (List.forall_mem_cons.mpr ⟨rfl, (fun _ h => absurd h List.not_mem_nil)⟩) rfl ?_
  intro p e s m args below meth c C hin
  refine x_wf (fun hw => ?_)
  refine x_iload_n 1 C dX11_isPath_0 rfl rfl ?_
  refine x_if_lt 4 11 C dX11_isPath_1 rfl (by decide) (by first | assumption | exact ⟨by omega, by omega⟩ | exact hw.1 _ _ | omega) (fun h1 => ?_) (fun h1 => ?_)
  · skip
    refine x_iconst 12 C dX11_isPath_11 rfl ?_
    exact x_iret C dX11_isPath_12 rfl ⟨vi (by rw [rIsPath_f (by omega)]; rfl), rfl⟩
  · skip
    refine x_iload_n 5 C dX11_isPath_4 rfl rfl ?_
    refine x_sipush 8 C dX11_isPath_5 rfl (by decide) ?_
    refine x_icmp_le 11 13 C dX11_isPath_8 rfl (by decide) (by first | assumption | exact ⟨by omega, by omega⟩ | exact hw.1 _ _ | omega) (by first | assumption | exact ⟨by omega, by omega⟩ | exact hw.1 _ _ | omega) (fun h8 => ?_) (fun h8 => ?_)
    · skip
      refine x_iload_n 14 C dX11_isPath_13 rfl rfl ?_
      refine x_istore_n 15 C dX11_isPath_14 rfl rfl rfl ?_
      refine x_iconst 16 C dX11_isPath_15 rfl ?_
      refine x_istore_n 17 C dX11_isPath_16 rfl rfl rfl ?_
      refine x_loop (α := Int × Int) (fun ⟨r, i⟩ => (4 - i).toNat) (fun ⟨r, i⟩ => 0 ≤ x ∧ x ≤ 999 ∧ ((i = 0 ∧ r = x) ∨ (i = 1 ∧ r = x / 10 ∧ 0 < x ∧ 0 < x % 10) ∨ (i = 2 ∧ r = x / 10 / 10 ∧ 9 < x ∧ 0 < x % 10 ∧ 0 < x / 10 % 10) ∨ (i = 3 ∧ r = x / 10 / 10 / 10 ∧ 99 < x ∧ 0 < x % 10 ∧ 0 < x / 10 % 10))) (fun ⟨r, i⟩ => G) (fun ⟨r, i⟩ => [some (.int (i32 x)), some (.int (i32 r)), some (.int (i32 i))]) (fun _ => []) (x, 0) ⟨by omega, by omega, Or.inl ⟨rfl, rfl⟩⟩ rfl rfl rfl ?_
      intro aa hI ih
      obtain ⟨r, i⟩ := aa
      (try dsimp only at hI); (try dsimp only at ih); (try dsimp only)
      refine x_iload_n 18 C dX11_isPath_17 rfl rfl ?_
      refine x_iconst 19 C dX11_isPath_18 rfl ?_
      refine x_icmp_ge 22 46 C dX11_isPath_19 rfl (by decide) (by first | assumption | exact ⟨by omega, by omega⟩ | exact hw.1 _ _ | omega) (by first | assumption | exact ⟨by omega, by omega⟩ | exact hw.1 _ _ | omega) (fun h19 => ?_) (fun h19 => ?_)
      · skip
        refine x_iconst 47 C dX11_isPath_46 rfl ?_
        exact x_iret C dX11_isPath_47 rfl ⟨vi (by rw [rIsPath_t.mpr (by omega)]; rfl), rfl⟩
      · skip
        refine x_iload_n 23 C dX11_isPath_22 rfl rfl ?_
        refine x_if_le 26 46 C dX11_isPath_23 rfl (by decide) (by first | assumption | exact ⟨by omega, by omega⟩ | exact hw.1 _ _ | omega) (fun h23 => ?_) (fun h23 => ?_)
        · skip
          refine x_iconst 47 C dX11_isPath_46 rfl ?_
          exact x_iret C dX11_isPath_47 rfl ⟨vi (by rw [rIsPath_t.mpr (by omega)]; rfl), rfl⟩
        · skip
          refine x_iload_n 27 C dX11_isPath_26 rfl rfl ?_
          refine x_bipush 29 C dX11_isPath_27 rfl (by decide) ?_
          refine x_irem 30 C dX11_isPath_29 rfl (by omega) ?_
          refine x_if_ne 33 35 C dX11_isPath_30 rfl (by decide) (by first | assumption | exact ⟨by omega, by omega⟩ | exact hw.1 _ _ | omega) (fun h30 => ?_) (fun h30 => ?_)
          · skip
            refine x_iload_n 36 C dX11_isPath_35 rfl rfl ?_
            refine x_bipush 38 C dX11_isPath_36 rfl (by decide) ?_
            refine x_idiv 39 C dX11_isPath_38 rfl (by omega) ?_
            refine x_istore_n 40 C dX11_isPath_39 rfl rfl rfl ?_
            refine x_iinc 43 C dX11_isPath_40 rfl rfl rfl rfl ?_
            refine x_goto 17 C dX11_isPath_43 (by decide) ?_
            exact ih (r / 10, i + 1) (by (try dsimp only); omega) (by (try dsimp only); omega)
          · skip
            refine x_iconst 34 C dX11_isPath_33 rfl ?_
            exact x_iret C dX11_isPath_34 rfl ⟨vi (by rw [rIsPath_f (by omega)]; rfl), rfl⟩
    · skip
      refine x_iconst 12 C dX11_isPath_11 rfl ?_
      exact x_iret C dX11_isPath_12 rfl ⟨vi (by rw [rIsPath_f (by omega)]; rfl), rfl⟩
set_option maxHeartbeats 2000000 in
set_option maxRecDepth 100000 in
theorem c_X11_countSegments {E : EV} {l : Launch} {G : GT} {x : Int} (hx : 0 ≤ x ∧ x ≤ 999) : MT E l yX11_countSegments cX11_countSegments 4 (some .int) 0 0 0 0 [.int (i32 x)] G (pD (some (.int (i32 (rMany x)))) (G)) := by
  refine mt_of (own := RX11) (L := [some (.int (i32 x)), none, none, none]) (by decide +kernel) rfl (Nat.le_of_ble_eq_true rfl) (List.forall_mem_cons.mpr ⟨rfl, (fun _ h => absurd h List.not_mem_nil)⟩) rfl ?_
  intro p e s m args below meth c C hin
  refine x_wf (fun hw => ?_)
  have hm := rMany_c x
  refine x_iconst 1 C dX11_countSegments_0 rfl ?_
  refine x_istore_n 2 C dX11_countSegments_1 rfl rfl rfl ?_
  refine x_iload_n 3 C dX11_countSegments_2 rfl rfl ?_
  refine x_istore_n 4 C dX11_countSegments_3 rfl rfl rfl ?_
  refine x_iconst 5 C dX11_countSegments_4 rfl ?_
  refine x_istore_n 6 C dX11_countSegments_5 rfl rfl rfl ?_
  refine x_loop (α := Int × Int) (fun ⟨r, i⟩ => (4 - i).toNat) (fun ⟨r, i⟩ => ((i = 0 ∧ r = x) ∨ (i = 1 ∧ r = x / 10 ∧ 0 < x) ∨ (i = 2 ∧ r = x / 10 / 10 ∧ 9 < x) ∨ (i = 3 ∧ r = x / 10 / 10 / 10 ∧ 99 < x))) (fun ⟨r, i⟩ => G) (fun ⟨r, i⟩ => [some (.int (i32 x)), some (.int (i32 i)), some (.int (i32 r)), some (.int (i32 i))]) (fun _ => []) (x, 0) (Or.inl ⟨rfl, rfl⟩) rfl rfl rfl ?_
  intro aa hI ih
  obtain ⟨r, i⟩ := aa
  (try dsimp only at hI); (try dsimp only at ih); (try dsimp only)
  refine x_iload_n 7 C dX11_countSegments_6 rfl rfl ?_
  refine x_iconst 8 C dX11_countSegments_7 rfl ?_
  refine x_icmp_ge 11 29 C dX11_countSegments_8 rfl (by decide) (by first | assumption | exact ⟨by omega, by omega⟩ | exact hw.1 _ _ | omega) (by first | assumption | exact ⟨by omega, by omega⟩ | exact hw.1 _ _ | omega) (fun h8 => ?_) (fun h8 => ?_)
  · skip
    refine x_iload_n 30 C dX11_countSegments_29 rfl rfl ?_
    exact x_iret C dX11_countSegments_30 rfl ⟨vi (by omega), rfl⟩
  · skip
    refine x_iload_n 12 C dX11_countSegments_11 rfl rfl ?_
    refine x_if_le 15 29 C dX11_countSegments_12 rfl (by decide) (by first | assumption | exact ⟨by omega, by omega⟩ | exact hw.1 _ _ | omega) (fun h12 => ?_) (fun h12 => ?_)
    · skip
      refine x_iload_n 30 C dX11_countSegments_29 rfl rfl ?_
      exact x_iret C dX11_countSegments_30 rfl ⟨vi (by omega), rfl⟩
    · skip
      refine x_iinc 18 C dX11_countSegments_15 rfl rfl rfl rfl ?_
      refine x_iload_n 19 C dX11_countSegments_18 rfl rfl ?_
      refine x_bipush 21 C dX11_countSegments_19 rfl (by decide) ?_
      refine x_idiv 22 C dX11_countSegments_21 rfl (by omega) ?_
      refine x_istore_n 23 C dX11_countSegments_22 rfl rfl rfl ?_
      refine x_iinc 26 C dX11_countSegments_23 rfl rfl rfl rfl ?_
      refine x_goto 6 C dX11_countSegments_26 (by decide) ?_
      exact ih (r / 10, i + 1) (by (try dsimp only); omega) (by (try dsimp only); omega)
set_option maxHeartbeats 2000000 in
set_option maxRecDepth 100000 in
theorem c_X11_beginsWith {E : EV} {l : Launch} {G : GT} {x y : Int} (hx : 0 ≤ x ∧ x ≤ 999) (hy : 0 ≤ y ∧ y ≤ 999) : MT E l yX11_beginsWith cX11_beginsWith 4 (some .boolean) 0 0 0 0 [.int (i32 x), .int (i32 y)] G (pD (some (.int (i32 (bI (rBegins y x))))) (G)) := by
  refine mt_of (own := RX11) (L := [some (.int (i32 x)), some (.int (i32 y)), none, none]) (by decide +kernel) rfl (Nat.le_of_ble_eq_true rfl) (List.forall_mem_cons.mpr ⟨rfl, (List.forall_mem_cons.mpr ⟨rfl, (fun _ h => absurd h List.not_mem_nil)⟩)⟩) rfl ?_
  intro p e s m args below meth c C hin
  refine x_wf (fun hw => ?_)
  refine x_iload_n 1 C dX11_beginsWith_0 rfl rfl ?_
  refine x_istore_n 2 C dX11_beginsWith_1 rfl rfl rfl ?_
  refine x_iconst 3 C dX11_beginsWith_2 rfl ?_
  refine x_istore_n 4 C dX11_beginsWith_3 rfl rfl rfl ?_
  refine x_loop (α := Int × Int) (fun ⟨r, i⟩ => (4 - i).toNat) (fun ⟨r, i⟩ => ((i = 0 ∧ r = x) ∨ (i = 1 ∧ r = x / 10 ∧ y < x) ∨ (i = 2 ∧ r = x / 10 / 10 ∧ y < x / 10) ∨ (i = 3 ∧ r = x / 10 / 10 / 10 ∧ y < x / 10 / 10))) (fun ⟨r, i⟩ => G) (fun ⟨r, i⟩ => [some (.int (i32 x)), some (.int (i32 y)), some (.int (i32 r)), some (.int (i32 i))]) (fun _ => []) (x, 0) (Or.inl ⟨rfl, rfl⟩) rfl rfl rfl ?_
  intro aa hI ih
  obtain ⟨r, i⟩ := aa
  (try dsimp only at hI); (try dsimp only at ih); (try dsimp only)
  refine x_iload_n 5 C dX11_beginsWith_4 rfl rfl ?_
  refine x_iconst 6 C dX11_beginsWith_5 rfl ?_
  refine x_icmp_ge 9 25 C dX11_beginsWith_6 rfl (by decide) (by first | assumption | exact ⟨by omega, by omega⟩ | exact hw.1 _ _ | omega) (by first | assumption | exact ⟨by omega, by omega⟩ | exact hw.1 _ _ | omega) (fun h6 => ?_) (fun h6 => ?_)
  · skip
    refine x_joinv 35 (fun vJ => vJ = bI (rBegins y x)) ?_ (fun hJ35 => ?_)
    · intro vJ hJ
      subst hJ
      exact x_iret C dX11_beginsWith_35 (by first | rfl | exact nar_b _ | exact nar_01 (by first | assumption | omega)) ⟨vi (rfl), rfl⟩
    · skip
      refine x_iload_n 26 C dX11_beginsWith_25 rfl rfl ?_
      refine x_iload_n 27 C dX11_beginsWith_26 rfl rfl ?_
      refine x_icmp_ne 30 34 C dX11_beginsWith_27 rfl (by decide) (by first | assumption | exact ⟨by omega, by omega⟩ | exact hw.1 _ _ | omega) (by first | assumption | exact ⟨by omega, by omega⟩ | exact hw.1 _ _ | omega) (fun h27 => ?_) (fun h27 => ?_)
      · skip
        refine x_iconst 35 C dX11_beginsWith_34 rfl ?_
        exact hJ35 _ (by first | (rw [(rBegins_t hy hx).mpr (by omega)]; rfl) | (rw [rBegins_f hy hx (by omega)]; rfl))
      · skip
        refine x_iconst 31 C dX11_beginsWith_30 rfl ?_
        refine x_goto 35 C dX11_beginsWith_31 (by decide) ?_
        exact hJ35 _ (by first | (rw [(rBegins_t hy hx).mpr (by omega)]; rfl) | (rw [rBegins_f hy hx (by omega)]; rfl))
  · skip
    refine x_iload_n 10 C dX11_beginsWith_9 rfl rfl ?_
    refine x_iload_n 11 C dX11_beginsWith_10 rfl rfl ?_
    refine x_icmp_le 14 25 C dX11_beginsWith_11 rfl (by decide) (by first | assumption | exact ⟨by omega, by omega⟩ | exact hw.1 _ _ | omega) (by first | assumption | exact ⟨by omega, by omega⟩ | exact hw.1 _ _ | omega) (fun h11 => ?_) (fun h11 => ?_)
    · skip
      refine x_joinv 35 (fun vJ => vJ = bI (rBegins y x)) ?_ (fun hJ35 => ?_)
      · intro vJ hJ
        subst hJ
        exact x_iret C dX11_beginsWith_35 (by first | rfl | exact nar_b _ | exact nar_01 (by first | assumption | omega)) ⟨vi (rfl), rfl⟩
      · skip
        refine x_iload_n 26 C dX11_beginsWith_25 rfl rfl ?_
        refine x_iload_n 27 C dX11_beginsWith_26 rfl rfl ?_
        refine x_icmp_ne 30 34 C dX11_beginsWith_27 rfl (by decide) (by first | assumption | exact ⟨by omega, by omega⟩ | exact hw.1 _ _ | omega) (by first | assumption | exact ⟨by omega, by omega⟩ | exact hw.1 _ _ | omega) (fun h27 => ?_) (fun h27 => ?_)
        · skip
          refine x_iconst 35 C dX11_beginsWith_34 rfl ?_
          exact hJ35 _ (by first | (rw [(rBegins_t hy hx).mpr (by omega)]; rfl) | (rw [rBegins_f hy hx (by omega)]; rfl))
        · skip
          refine x_iconst 31 C dX11_beginsWith_30 rfl ?_
          refine x_goto 35 C dX11_beginsWith_31 (by decide) ?_
          exact hJ35 _ (by first | (rw [(rBegins_t hy hx).mpr (by omega)]; rfl) | (rw [rBegins_f hy hx (by omega)]; rfl))
    · skip
      refine x_iload_n 15 C dX11_beginsWith_14 rfl rfl ?_
      refine x_bipush 17 C dX11_beginsWith_15 rfl (by decide) ?_
      refine x_idiv 18 C dX11_beginsWith_17 rfl (by omega) ?_
      refine x_istore_n 19 C dX11_beginsWith_18 rfl rfl rfl ?_
      refine x_iinc 22 C dX11_beginsWith_19 rfl rfl rfl rfl ?_
      refine x_goto 4 C dX11_beginsWith_22 (by decide) ?_
      exact ih (r / 10, i + 1) (by (try dsimp only); omega) (by (try dsimp only); omega)
set_option maxHeartbeats 2000000 in
set_option maxRecDepth 100000 in
theorem c_X11_powerOfReference {E : EV} {l : Launch} {G : GT} {x : Int} (hx : InR x) : MT E l yX11_powerOfReference cX11_powerOfReference 2 (some .int) 0 0 0 0 [.int (i32 x)] G (pD (some (.int (i32 (if rIsRef x = true then rPw x else 0)))) (G)) := by
  refine mt_of (own := RX11) (L := [some (.int (i32 x)), none]) (by decide +kernel) rfl (Nat.le_of_ble_eq_true rfl) (List.forall_mem_cons.mpr ⟨rfl, (fun _ h => absurd h List.not_mem_nil)⟩) rfl ?_
  intro p e s m args below meth c C hin
  refine x_wf (fun hw => ?_)
  refine x_iconst 1 C dX11_powerOfReference_0 rfl ?_
  refine x_istore_n 2 C dX11_powerOfReference_1 rfl rfl rfl ?_
  refine x_loop (α := Int) (fun w => (100001 - w).toNat) (fun w => (w = 1) ∨ (w = 10 ∧ ¬ (1 ≤ x ∧ x ≤ 2)) ∨ (w = 100 ∧ ¬ (1 ≤ x ∧ x ≤ 2) ∧ ¬ (10 ≤ x ∧ x ≤ 29)) ∨ (w = 1000 ∧ ¬ (1 ≤ x ∧ x ≤ 2) ∧ ¬ (10 ≤ x ∧ x ≤ 29) ∧ ¬ (100 ≤ x ∧ x ≤ 299)) ∨ (w = 10000 ∧ ¬ (1 ≤ x ∧ x ≤ 2) ∧ ¬ (10 ≤ x ∧ x ≤ 29) ∧ ¬ (100 ≤ x ∧ x ≤ 299) ∧ ¬ (1000 ≤ x ∧ x ≤ 2999)) ∨ (w = 100000 ∧ ¬ (1 ≤ x ∧ x ≤ 2) ∧ ¬ (10 ≤ x ∧ x ≤ 29) ∧ ¬ (100 ≤ x ∧ x ≤ 299) ∧ ¬ (1000 ≤ x ∧ x ≤ 2999) ∧ ¬ (10000 ≤ x ∧ x ≤ 29999))) (fun w => G) (fun w => [some (.int (i32 x)), some (.int (i32 w))]) (fun _ => []) 1 (Or.inl rfl) rfl rfl rfl ?_
  intro aa hI ih
  obtain ⟨w, rfl⟩ := (⟨aa, rfl⟩ : ∃ z, z = aa)
  (try dsimp only at hI); (try dsimp only at ih); (try dsimp only)
  refine x_iload_n 3 C dX11_powerOfReference_2 rfl rfl ?_
  refine x_sipush 6 C dX11_powerOfReference_3 rfl (by decide) ?_
  refine x_icmp_gt 9 31 C dX11_powerOfReference_6 rfl (by decide) (by first | assumption | exact ⟨by omega, by omega⟩ | exact hw.1 _ _ | omega) (by first | assumption | exact ⟨by omega, by omega⟩ | exact hw.1 _ _ | omega) (fun h6 => ?_) (fun h6 => ?_)
  · skip
    refine x_iconst 32 C dX11_powerOfReference_31 rfl ?_
    exact x_iret C dX11_powerOfReference_32 rfl ⟨vi (by rw [rIsRef_f (by omega)]; rfl), rfl⟩
  · skip
    refine x_iload_n 10 C dX11_powerOfReference_9 rfl rfl ?_
    refine x_iload_n 11 C dX11_powerOfReference_10 rfl rfl ?_
    refine x_icmp_lt 14 23 C dX11_powerOfReference_11 rfl (by decide) (by first | assumption | exact ⟨by omega, by omega⟩ | exact hw.1 _ _ | omega) (by first | assumption | exact ⟨by omega, by omega⟩ | exact hw.1 _ _ | omega) (fun h11 => ?_) (fun h11 => ?_)
    · skip
      refine x_iload_n 24 C dX11_powerOfReference_23 rfl rfl ?_
      refine x_bipush 26 C dX11_powerOfReference_24 rfl (by decide) ?_
      refine x_imul 27 C dX11_powerOfReference_26 rfl ?_
      refine x_istore_n 28 C dX11_powerOfReference_27 rfl rfl rfl ?_
      refine x_goto 2 C dX11_powerOfReference_28 (by decide) ?_
      exact ih (w * 10) (by (try dsimp only); omega) (by (try dsimp only); omega)
    · skip
      refine x_iload_n 15 C dX11_powerOfReference_14 rfl rfl ?_
      refine x_iconst 16 C dX11_powerOfReference_15 rfl ?_
      refine x_iload_n 17 C dX11_powerOfReference_16 rfl rfl ?_
      refine x_imul 18 C dX11_powerOfReference_17 rfl ?_
      refine x_icmp_ge 21 23 C dX11_powerOfReference_18 rfl (by decide) (by first | assumption | exact ⟨by omega, by omega⟩ | exact hw.1 _ _ | omega) (by first | assumption | exact ⟨by omega, by omega⟩ | exact hw.1 _ _ | omega) (fun h18 => ?_) (fun h18 => ?_)
      · skip
        refine x_iload_n 24 C dX11_powerOfReference_23 rfl rfl ?_
        refine x_bipush 26 C dX11_powerOfReference_24 rfl (by decide) ?_
        refine x_imul 27 C dX11_powerOfReference_26 rfl ?_
        refine x_istore_n 28 C dX11_powerOfReference_27 rfl rfl rfl ?_
        refine x_goto 2 C dX11_powerOfReference_28 (by decide) ?_
        exact ih (w * 10) (by (try dsimp only); omega) (by (try dsimp only); omega)
      · skip
        refine x_iload_n 22 C dX11_powerOfReference_21 rfl rfl ?_
        exact x_iret C dX11_powerOfReference_22 rfl ⟨vi (by have hq := rIsRef_t.mpr (show _ by omega : (1 ≤ x ∧ x ≤ 2) ∨ (10 ≤ x ∧ x ≤ 29) ∨ (100 ≤ x ∧ x ≤ 299) ∨ (1000 ≤ x ∧ x ≤ 2999) ∨ (10000 ≤ x ∧ x ≤ 29999)); have hp := rPw_c hq; rw [if_pos hq]; omega), rfl⟩
set_option maxHeartbeats 2000000 in
set_option maxRecDepth 100000 in
theorem c_X11_becomesGet {E : EV} {l : Launch} {G : GT} {x y : Int} (hx : InR x) (hy : InR y) : MT E l yX11_becomesGet cX11_becomesGet 2 (some .boolean) 0 0 0 0 [.int (i32 x), .int (i32 y)] G (pD (some (.int (i32 (bI (decide (y = 2 ∨ (y ≤ 1 ∧ x = 1))))))) (G)) := by
  refine mt_of (own := RX11) (L := [some (.int (i32 x)), some (.int (i32 y))]) (by decide +kernel) rfl (Nat.le_of_ble_eq_true rfl) (List.forall_mem_cons.mpr ⟨rfl, (List.forall_mem_cons.mpr ⟨rfl, (fun _ h => absurd h List.not_mem_nil)⟩)⟩) rfl ?_
  intro p e s m args below meth c C hin
  refine x_wf (fun hw => ?_)
  refine x_iload_n 1 C dX11_becomesGet_0 rfl rfl ?_
  refine x_iconst 2 C dX11_becomesGet_1 rfl ?_
  refine x_icmp_ne 5 7 C dX11_becomesGet_2 rfl (by decide) (by first | assumption | exact ⟨by omega, by omega⟩ | exact hw.1 _ _ | omega) (by first | assumption | exact ⟨by omega, by omega⟩ | exact hw.1 _ _ | omega) (fun h2 => ?_) (fun h2 => ?_)
  · skip
    refine x_joinv 22 (fun vJ => vJ = bI (decide (y = 2 ∨ (y ≤ 1 ∧ x = 1)))) ?_ (fun hJ22 => ?_)
    · intro vJ hJ
      subst hJ
      exact x_iret C dX11_becomesGet_22 (by first | rfl | exact nar_b _ | exact nar_01 (by first | assumption | omega)) ⟨vi (rfl), rfl⟩
    · skip
      refine x_iload_n 8 C dX11_becomesGet_7 rfl rfl ?_
      refine x_iconst 9 C dX11_becomesGet_8 rfl ?_
      refine x_icmp_gt 12 21 C dX11_becomesGet_9 rfl (by decide) (by first | assumption | exact ⟨by omega, by omega⟩ | exact hw.1 _ _ | omega) (by first | assumption | exact ⟨by omega, by omega⟩ | exact hw.1 _ _ | omega) (fun h9 => ?_) (fun h9 => ?_)
      · skip
        refine x_iconst 22 C dX11_becomesGet_21 rfl ?_
        exact hJ22 _ (by first | (rw [decide_eq_true (by omega)]; rfl) | (rw [decide_eq_false (by omega)]; rfl))
      · skip
        refine x_iload_n 13 C dX11_becomesGet_12 rfl rfl ?_
        refine x_iconst 14 C dX11_becomesGet_13 rfl ?_
        refine x_icmp_ne 17 21 C dX11_becomesGet_14 rfl (by decide) (by first | assumption | exact ⟨by omega, by omega⟩ | exact hw.1 _ _ | omega) (by first | assumption | exact ⟨by omega, by omega⟩ | exact hw.1 _ _ | omega) (fun h14 => ?_) (fun h14 => ?_)
        · skip
          refine x_iconst 22 C dX11_becomesGet_21 rfl ?_
          exact hJ22 _ (by first | (rw [decide_eq_true (by omega)]; rfl) | (rw [decide_eq_false (by omega)]; rfl))
        · skip
          refine x_iconst 18 C dX11_becomesGet_17 rfl ?_
          refine x_goto 22 C dX11_becomesGet_18 (by decide) ?_
          exact hJ22 _ (by first | (rw [decide_eq_true (by omega)]; rfl) | (rw [decide_eq_false (by omega)]; rfl))
  · skip
    refine x_iconst 6 C dX11_becomesGet_5 rfl ?_
    exact x_iret C dX11_becomesGet_6 rfl ⟨vi (by rw [decide_eq_true (by omega)]; rfl), rfl⟩
