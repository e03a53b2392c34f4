/-! rows laid by program (wip/tools/genp.py) -/
/-- two preflights are for the same -/
def rkSm (G : GT) (x y : Nat) : Prop := gI G 1200 x = gI G 1200 y ∧ gP G 1201 x = gP G 1201 y ∧ gI G 1202 x = gI G 1202 y ∧ gI G 1203 x = gI G 1203 y
theorem rkSm_d {G : GT} {x y a b : Nat} (h1 : gP G 1201 x = some a) (h2 : gP G 1201 y = some b) : (gI G 1200 x = gI G 1200 y ∧ a = b ∧ gI G 1202 x = gI G 1202 y ∧ gI G 1203 x = gI G 1203 y) ↔ rkSm G x y := by
  unfold rkSm
  rw [h1, h2]
  constructor
  · rintro ⟨q1, q2, q3, q4⟩
    exact ⟨q1, by rw [q2], q3, q4⟩
  · rintro ⟨q1, q2, q3, q4⟩
    exact ⟨q1, Option.some.inj q2, q3, q4⟩
theorem rkTd_0 {xs : List Nat} {P : Nat → Bool} {n : Int} (h : (xs.length : Int) = n) : xs.take (n - 1 + 1).toNat ++ (xs.drop (n - 1 + 1).toNat).filter P = xs := by
  rw [List.take_of_length_le (by omega), List.drop_of_length_le (by omega)]
  exact List.append_nil _
theorem rkTd_get {xs : List Nat} {P : Nat → Bool} {k : Int} (h0 : 0 ≤ k) (h : k < (xs.length : Int)) : (xs.take (k + 1).toNat ++ (xs.drop (k + 1).toNat).filter P)[k.toNat]? = some (xs.getD k.toNat 0) := by
  rw [List.getElem?_append_left (by rw [List.length_take]; omega), List.getElem?_take, if_pos (by omega), List.getD_eq_getElem?_getD, List.getElem?_eq_getElem (by omega)]
  rfl
theorem rkTd_drop {xs : List Nat} {k : Int} (h0 : 0 ≤ k) (h : k < (xs.length : Int)) : xs.drop k.toNat = xs.getD k.toNat 0 :: xs.drop (k + 1).toNat := by
  rw [List.drop_eq_getElem_cons (by omega : k.toNat < xs.length), List.getD_eq_getElem?_getD, List.getElem?_eq_getElem (by omega), show (k + 1).toNat = k.toNat + 1 by omega]
  rfl
theorem rkTd_stay {xs : List Nat} {P : Nat → Bool} {k : Int} (h0 : 0 ≤ k) (h : k < (xs.length : Int)) (hP : P (xs.getD k.toNat 0) = true) : xs.take (k + -1 + 1).toNat ++ (xs.drop (k + -1 + 1).toNat).filter P = xs.take (k + 1).toNat ++ (xs.drop (k + 1).toNat).filter P := by
  rw [show k + -1 + 1 = k by omega, rkTd_drop h0 h, List.filter_cons, if_pos hP, show (k + 1).toNat = k.toNat + 1 by omega, List.take_succ, List.append_assoc, List.getD_eq_getElem?_getD, List.getElem?_eq_getElem (by omega : k.toNat < xs.length)]
  rfl
theorem rkTd_go {xs : List Nat} {P : Nat → Bool} {k : Int} (h0 : 0 ≤ k) (h : k < (xs.length : Int)) (hP : ¬ P (xs.getD k.toNat 0) = true) : xs.take (k + -1 + 1).toNat ++ (xs.drop (k + -1 + 1).toNat).filter P = (xs.take (k + 1).toNat ++ (xs.drop (k + 1).toNat).filter P).eraseIdx k.toNat := by
  have e2 : (xs.take (k + 1).toNat).drop (k.toNat + 1) = [] := List.drop_eq_nil_of_le (by rw [List.length_take]; omega)
  have e : (xs.take (k + 1).toNat).eraseIdx k.toNat = xs.take k.toNat := by rw [List.eraseIdx_eq_take_drop_succ, List.take_take, e2, List.append_nil, Nat.min_eq_left (by omega)]
  rw [show k + -1 + 1 = k by omega, rkTd_drop h0 h, List.filter_cons, if_neg hP, List.eraseIdx_append_of_lt_length (by rw [List.length_take]; omega), e]
set_option maxHeartbeats 2000000 in
set_option maxRecDepth 100000 in
theorem c_X11_findKept {E : EV} {l : Launch} {G : GT} {B : Nat → Nat} (hB : rkB G B) {n : Int} {y ad2 : Nat} (hl5 : ((gL G (B 5)).length : Int) = n) (hn5 : n ≤ 240) (hpf : ∀ p, 0 ≤ p → p < n → gK G (rkAt G (B 5) p) = 12 ∧ ∃ a1, gP G 1201 (rkAt G (B 5) p) = some a1) (hy : gK G y = 12 ∧ gP G 1201 y = some ad2) : MT E l yX11_findKept cX11_findKept 4 (some (.object "HopRules$Preflight")) 3 64 0 0 [.ref (B 0), .ref y] (G) (fun v G' => G' = G ∧ ((v = some (va_rf none) ∧ ∀ p : Int, 0 ≤ p → p < n → ¬ rkSm G (rkAt G (B 5) p) y) ∨ ∃ p : Int, (0 ≤ p ∧ p < n) ∧ rkSm G (rkAt G (B 5) p) y ∧ v = some (.ref (rkAt G (B 5) p)))) := by
  refine mt_of (own := RX11) (L := [some (.ref (B 0)), some (.ref y), none, none]) (by decide +kernel) rfl (Nat.le_of_ble_eq_true rfl) (List.forall_mem_cons.mpr ⟨rfl, (List.forall_mem_cons.mpr ⟨rfl, (fun _ h => absurd h List.not_mem_nil)⟩)⟩) rfl ?_
  intro p e s m args below meth c C hin
  refine x_wf (fun hw => ?_)
  obtain ⟨⟨b0, b6, b7⟩, ⟨bk1, bk2, bk3, bk4, bk5, bk8, bk9⟩, ⟨bp0, bp1, bp2, bp3, bp4, bp5, bp6, bp7, bp8⟩, -⟩ := id hB
  have hn0 : 0 ≤ n := by omega
  refine x_iconst 1 C dX11_findKept_0 rfl ?_
  refine x_istore_n 2 C dX11_findKept_1 rfl rfl rfl ?_
  refine x_loop (α := Int) (fun k => (n - k).toNat) (fun k => 0 ≤ k ∧ k ≤ n ∧ ∀ p : Int, 0 ≤ p → p < k → ¬ rkSm G (rkAt G (B 5) p) y) (fun k => G) (fun k => [some (.ref (B 0)), some (.ref y), some (.int (i32 k)), none]) (fun _ => []) 0 ⟨by omega, by omega, fun p z1 z2 => by omega⟩ rfl rfl rfl ?_
  intro aa hI ih
  obtain ⟨k, rfl⟩ := (⟨aa, rfl⟩ : ∃ z, z = aa)
  (try dsimp only at hI); (try dsimp only at ih); (try dsimp only)
  obtain ⟨i1, i2, i3⟩ := hI
  refine x_iload_n 3 C dX11_findKept_2 rfl rfl ?_
  refine x_aload_n 4 C dX11_findKept_3 rfl rfl ?_
  refine x_getO 7 1404 C fr_X11_25 dX11_findKept_4 rfl rfl rfl rfl (by assumption) (by assumption) ?_
  refine x_callL (As := []) (ci := 2) 10 0 0 C vw_X11_66 iw_Jx4a65c_size_8abf5 sw_Jx4a65c_size_8abf5 (c_sizev (by assumption) hl5) dX11_findKept_7 rfl rfl rfl rfl rfl (Or.inr (Or.inr ⟨rfl, (by assumption)⟩)) ⟨Nat.le_of_ble_eq_true rfl, Nat.le_of_ble_eq_true rfl⟩ (Nat.le_of_ble_eq_true rfl) ⟨Nat.le_refl _, Nat.le_refl _⟩ (fun v G' hq => ?_)
  obtain ⟨rfl, hG9⟩ := hq
  replace hG9 := hG9.symm
  subst hG9
  refine x_as rfl rfl rfl ?_
  refine x_icmp_ge 13 41 C dX11_findKept_10 rfl (by decide) (by first | assumption | exact ⟨by omega, by omega⟩ | exact hw.1 _ _ | omega) (by first | assumption | exact ⟨by omega, by omega⟩ | exact hw.1 _ _ | omega) (fun h10 => ?_) (fun h10 => ?_)
  · skip
    refine x_null 42 C dX11_findKept_41 rfl ?_
    exact x_aret C dX11_findKept_42 rfl ⟨rfl, Or.inl ⟨rfl, fun p p0 p1 => i3 p p0 (by omega)⟩⟩
  · skip
    obtain ⟨ck, a1, ca⟩ := hpf k i1 (by omega)
    refine x_aload_n 14 C dX11_findKept_13 rfl rfl ?_
    refine x_getO 17 1404 C fr_X11_25 dX11_findKept_14 rfl rfl rfl rfl (by assumption) (by assumption) ?_
    refine x_iload_n 18 C dX11_findKept_17 rfl rfl ?_
    refine x_callL (As := [_]) (ci := 2) 21 0 0 C vw_X11_151 iw_Jx4a65c_get_915e3 sw_Jx4a65c_get_915e3 (c_get (x := rkAt G (B 5) k) (by assumption) (by omega) (rkAt_get hl5 (by omega) (by omega))) dX11_findKept_18 rfl rfl rfl rfl rfl (Or.inr (Or.inr ⟨rfl, (by assumption)⟩)) ⟨Nat.le_of_ble_eq_true rfl, Nat.le_of_ble_eq_true rfl⟩ (Nat.le_of_ble_eq_true rfl) ⟨Nat.le_refl _, Nat.le_refl _⟩ (fun v G' hq => ?_)
    obtain ⟨rfl, hG9⟩ := hq
    replace hG9 := hG9.symm
    subst hG9
    refine x_as rfl rfl rfl ?_
    refine x_cast 24 C ck_X11_357 rfl rfl (by assumption) dX11_findKept_21 rfl ?_
    refine x_astore_n 25 C dX11_findKept_24 rfl rfl rfl ?_
    refine x_aload_n 26 C dX11_findKept_25 rfl rfl ?_
    refine x_aload_n 27 C dX11_findKept_26 rfl rfl ?_
    refine x_callV (As := [_]) 30 12 0 0 C vw_X11_376 iw_X9_isForSame sw_X9_isForSame (c_X9_isForSame (og1 := gI G 1200 (rkAt G (B 5) k)) (al1 := gI G 1202 (rkAt G (B 5) k)) (pt1 := gI G 1203 (rkAt G (B 5) k)) (ot1 := gI G 1204 (rkAt G (B 5) k)) (ga1 := gI G 1205 (rkAt G (B 5) k)) (og2 := gI G 1200 y) (al2 := gI G 1202 y) (pt2 := gI G 1203 y) (ot2 := gI G 1204 y) (ga2 := gI G 1205 y) ⟨ck, rfl, ca, rfl, rfl, rfl, rfl⟩ ⟨hy.1, rfl, hy.2, rfl, rfl, rfl, rfl⟩) dX11_findKept_27 rfl rfl rfl rfl rfl rfl ck ⟨Nat.le_of_ble_eq_true rfl, Nat.le_of_ble_eq_true rfl⟩ (Nat.le_of_ble_eq_true rfl) ⟨Nat.le_refl _, Nat.le_refl _⟩ (fun v G' hq => ?_)
    obtain ⟨rfl, hG9⟩ := hq
    replace hG9 := hG9.symm
    subst hG9
    refine x_as rfl rfl rfl ?_
    refine x_if_eqB 33 35 C dX11_findKept_30 rfl (by decide) (fun h30 => ?_) (fun h30 => ?_)
    · skip
      refine x_iinc 38 C dX11_findKept_35 rfl rfl rfl rfl ?_
      refine x_goto 2 C dX11_findKept_38 (by decide) ?_
      have hno : ¬ rkSm G (rkAt G (B 5) k) y := fun z => (of_decide_eq_false h30) ((rkSm_d ca hy.2).mpr z)
      refine x_less ?_ (ih (k + 1) ⟨by omega, by omega, fun p p0 p1 => (if c : p = k then c ▸ hno else i3 p p0 (by omega))⟩ (by (try dsimp only); omega))
      exact ⟨rfl, rfl, rfl, trivial⟩
    · skip
      refine x_aload_n 34 C dX11_findKept_33 rfl rfl ?_
      exact x_aret (r := some _) C dX11_findKept_34 rfl ⟨rfl, Or.inr ⟨k, ⟨i1, by omega⟩, (rkSm_d ca hy.2).mp (of_decide_eq_true h30), rfl⟩⟩
set_option maxHeartbeats 2000000 in
set_option maxRecDepth 100000 in
theorem c_X11_keep {E : EV} {l : Launch} {G : GT} {B : Nat → Nat} (hB : rkB G B) {n : Int} {y ad2 : Nat} (hl5 : ((gL G (B 5)).length : Int) = n) (hn5 : n ≤ 240) (hpf : ∀ p, 0 ≤ p → p < n → gK G (rkAt G (B 5) p) = 12 ∧ ∃ a1, gP G 1201 (rkAt G (B 5) p) = some a1) (hy : gK G y = 12 ∧ gP G 1201 y = some ad2) : MT E l yX11_keep cX11_keep 3 none 7 191 1 360 [.ref (B 0), .ref y] (G) (fun v G' => v = none ∧ ((∃ p : Int, (0 ≤ p ∧ p < n) ∧ rkSm G (rkAt G (B 5) p) y ∧ G' = sL G (B 5) ((gL G (B 5)).set p.toNat y)) ∨ ((∀ p : Int, 0 ≤ p → p < n → ¬ rkSm G (rkAt G (B 5) p) y) ∧ G' = sL G (B 5) (gL G (B 5) ++ [y])))) := by
  refine mt_of (own := RX11) (L := [some (.ref (B 0)), some (.ref y), none]) (by decide +kernel) rfl (Nat.le_of_ble_eq_true rfl) (List.forall_mem_cons.mpr ⟨rfl, (List.forall_mem_cons.mpr ⟨rfl, (fun _ h => absurd h List.not_mem_nil)⟩)⟩) rfl ?_
  intro p e s m args below meth c C hin
  refine x_wf (fun hw => ?_)
  obtain ⟨⟨b0, b6, b7⟩, ⟨bk1, bk2, bk3, bk4, bk5, bk8, bk9⟩, ⟨bp0, bp1, bp2, bp3, bp4, bp5, bp6, bp7, bp8⟩, -⟩ := id hB
  have hn0 : 0 ≤ n := by omega
  refine x_iconst 1 C dX11_keep_0 rfl ?_
  refine x_istore_n 2 C dX11_keep_1 rfl rfl rfl ?_
  refine x_loop (α := Int) (fun k => (n - k).toNat) (fun k => 0 ≤ k ∧ k ≤ n ∧ ∀ p : Int, 0 ≤ p → p < k → ¬ rkSm G (rkAt G (B 5) p) y) (fun k => G) (fun k => [some (.ref (B 0)), some (.ref y), some (.int (i32 k))]) (fun _ => []) 0 ⟨by omega, by omega, fun p z1 z2 => by omega⟩ rfl rfl rfl ?_
  intro aa hI ih
  obtain ⟨k, rfl⟩ := (⟨aa, rfl⟩ : ∃ z, z = aa)
  (try dsimp only at hI); (try dsimp only at ih); (try dsimp only)
  obtain ⟨i1, i2, i3⟩ := hI
  refine x_iload_n 3 C dX11_keep_2 rfl rfl ?_
  refine x_aload_n 4 C dX11_keep_3 rfl rfl ?_
  refine x_getO 7 1404 C fr_X11_25 dX11_keep_4 rfl rfl rfl rfl (by assumption) (by assumption) ?_
  refine x_callL (As := []) (ci := 2) 10 1 360 C vw_X11_66 iw_Jx4a65c_size_8abf5 sw_Jx4a65c_size_8abf5 (c_sizev (by assumption) hl5) dX11_keep_7 rfl rfl rfl rfl rfl (Or.inr (Or.inr ⟨rfl, (by assumption)⟩)) ⟨Nat.le_of_ble_eq_true rfl, Nat.le_of_ble_eq_true rfl⟩ (Nat.le_of_ble_eq_true rfl) ⟨Nat.le_refl _, Nat.le_refl _⟩ (fun v G' hq => ?_)
  obtain ⟨rfl, hG9⟩ := hq
  replace hG9 := hG9.symm
  subst hG9
  refine x_as rfl rfl rfl ?_
  refine x_icmp_ge 13 48 C dX11_keep_10 rfl (by decide) (by first | assumption | exact ⟨by omega, by omega⟩ | exact hw.1 _ _ | omega) (by first | assumption | exact ⟨by omega, by omega⟩ | exact hw.1 _ _ | omega) (fun h10 => ?_) (fun h10 => ?_)
  · skip
    refine x_aload_n 49 C dX11_keep_48 rfl rfl ?_
    refine x_getO 52 1404 C fr_X11_25 dX11_keep_49 rfl rfl rfl rfl (by assumption) (by assumption) ?_
    refine x_aload_n 53 C dX11_keep_52 rfl rfl ?_
    refine x_callL (As := [_]) (ci := 2) 56 0 0 C vw_X11_78 iw_Jx4a65c_add_9ea2d sw_Jx4a65c_add_9ea2d (c_add (ms := 360) (by assumption) (show 3 ≤ gK G y ∧ gK G y ≤ 14 by omega) (fun x hx => by (obtain ⟨i, i0, i1, rfl⟩ := rkAt_mem hl5 hx; have := (hpf i i0 i1).1; show 3 ≤ gK G _ ∧ gK G _ ≤ 14; omega)) (by omega)) dX11_keep_53 rfl rfl rfl rfl rfl (Or.inr (Or.inr ⟨rfl, (by assumption)⟩)) ⟨Nat.le_of_ble_eq_true rfl, Nat.le_of_ble_eq_true rfl⟩ (Nat.le_of_ble_eq_true rfl) ⟨by omega, by omega⟩ (fun v G' hq => ?_)
    obtain ⟨rfl, hG9⟩ := hq
    replace hG9 := hG9.symm
    subst hG9
    refine x_as rfl rfl rfl ?_
    refine x_pop 57 C dX11_keep_56 rfl rfl ?_
    exact x_ret C dX11_keep_57 ⟨rfl, Or.inr ⟨fun p p0 p1 => i3 p p0 (by omega), rfl⟩⟩
  · skip
    obtain ⟨ck, a1, ca⟩ := hpf k i1 (by omega)
    refine x_aload_n 14 C dX11_keep_13 rfl rfl ?_
    refine x_getO 17 1404 C fr_X11_25 dX11_keep_14 rfl rfl rfl rfl (by assumption) (by assumption) ?_
    refine x_iload_n 18 C dX11_keep_17 rfl rfl ?_
    refine x_callL (As := [_]) (ci := 2) 21 1 360 C vw_X11_151 iw_Jx4a65c_get_915e3 sw_Jx4a65c_get_915e3 (c_get (x := rkAt G (B 5) k) (by assumption) (by omega) (rkAt_get hl5 (by omega) (by omega))) dX11_keep_18 rfl rfl rfl rfl rfl (Or.inr (Or.inr ⟨rfl, (by assumption)⟩)) ⟨Nat.le_of_ble_eq_true rfl, Nat.le_of_ble_eq_true rfl⟩ (Nat.le_of_ble_eq_true rfl) ⟨Nat.le_refl _, Nat.le_refl _⟩ (fun v G' hq => ?_)
    obtain ⟨rfl, hG9⟩ := hq
    replace hG9 := hG9.symm
    subst hG9
    refine x_as rfl rfl rfl ?_
    refine x_cast 24 C ck_X11_357 rfl rfl (by assumption) dX11_keep_21 rfl ?_
    refine x_aload_n 25 C dX11_keep_24 rfl rfl ?_
    refine x_callV (As := [_]) 28 12 1 360 C vw_X11_376 iw_X9_isForSame sw_X9_isForSame (c_X9_isForSame (og1 := gI G 1200 (rkAt G (B 5) k)) (al1 := gI G 1202 (rkAt G (B 5) k)) (pt1 := gI G 1203 (rkAt G (B 5) k)) (ot1 := gI G 1204 (rkAt G (B 5) k)) (ga1 := gI G 1205 (rkAt G (B 5) k)) (og2 := gI G 1200 y) (al2 := gI G 1202 y) (pt2 := gI G 1203 y) (ot2 := gI G 1204 y) (ga2 := gI G 1205 y) ⟨ck, rfl, ca, rfl, rfl, rfl, rfl⟩ ⟨hy.1, rfl, hy.2, rfl, rfl, rfl, rfl⟩) dX11_keep_25 rfl rfl rfl rfl rfl rfl ck ⟨Nat.le_of_ble_eq_true rfl, Nat.le_of_ble_eq_true rfl⟩ (Nat.le_of_ble_eq_true rfl) ⟨Nat.le_refl _, Nat.le_refl _⟩ (fun v G' hq => ?_)
    obtain ⟨rfl, hG9⟩ := hq
    replace hG9 := hG9.symm
    subst hG9
    refine x_as rfl rfl rfl ?_
    refine x_if_eqB 31 42 C dX11_keep_28 rfl (by decide) (fun h28 => ?_) (fun h28 => ?_)
    · skip
      refine x_iinc 45 C dX11_keep_42 rfl rfl rfl rfl ?_
      refine x_goto 2 C dX11_keep_45 (by decide) ?_
      have hno : ¬ rkSm G (rkAt G (B 5) k) y := fun z => (of_decide_eq_false h28) ((rkSm_d ca hy.2).mpr z)
      exact ih (k + 1) ⟨by omega, by omega, fun p p0 p1 => (if c : p = k then c ▸ hno else i3 p p0 (by omega))⟩ (by (try dsimp only); omega)
    · skip
      refine x_aload_n 32 C dX11_keep_31 rfl rfl ?_
      refine x_getO 35 1404 C fr_X11_25 dX11_keep_32 rfl rfl rfl rfl (by assumption) (by assumption) ?_
      refine x_iload_n 36 C dX11_keep_35 rfl rfl ?_
      refine x_aload_n 37 C dX11_keep_36 rfl rfl ?_
      refine x_as (st' := [.ref y, .int (i32 ((k.toNat : Nat) : Int)), .ref (B 5)]) rfl rfl (by rw [Int.toNat_of_nonneg (by omega)]; try rfl) ?_
      refine x_callL (As := [_, _]) (ci := 2) 40 1 360 C vw_X11_380 iw_Jx4a65c_set_bcc79 sw_Jx4a65c_set_bcc79 (c_set (i := k.toNat) (x := rkAt G (B 5) k) (by assumption) (rkAt_get hl5 (by omega) (by omega)) (show 3 ≤ gK G y ∧ gK G y ≤ 14 by omega)) dX11_keep_37 rfl rfl rfl rfl rfl (Or.inr (Or.inr ⟨rfl, (by assumption)⟩)) ⟨Nat.le_of_ble_eq_true rfl, Nat.le_of_ble_eq_true rfl⟩ (Nat.le_of_ble_eq_true rfl) ⟨Nat.le_refl _, Nat.le_refl _⟩ (fun v G' hq => ?_)
      obtain ⟨rfl, hG9⟩ := hq
      replace hG9 := hG9.symm
      subst hG9
      refine x_as rfl rfl rfl ?_
      refine x_pop 41 C dX11_keep_40 rfl rfl ?_
      exact x_ret C dX11_keep_41 ⟨rfl, Or.inl ⟨k, ⟨i1, by omega⟩, (rkSm_d ca hy.2).mp (of_decide_eq_true h28), rfl⟩⟩
set_option maxHeartbeats 2000000 in
set_option maxRecDepth 100000 in
theorem c_X11_dropGonePreflights {E : EV} {l : Launch} {G : GT} {B : Nat → Nat} {n nw : Int} (hB : rkB G B) (hl5 : ((gL G (B 5)).length : Int) = n) (hn5 : n ≤ 240) (hpf : ∀ p, 0 ≤ p → p < n → gK G (rkAt G (B 5) p) = 12) (hnw : gI G 1408 (B 0) = nw) : MT E l yX11_dropGonePreflights cX11_dropGonePreflights 2 none 3 106 0 0 [.ref (B 0)] (G) (fun v G' => v = none ∧ G' = sL G (B 5) ((gL G (B 5)).filter (fun x => decide (nw < gI G 1205 x)))) := by
  refine mt_of (own := RX11) (L := [some (.ref (B 0)), none]) (by decide +kernel) rfl (Nat.le_of_ble_eq_true rfl) (List.forall_mem_cons.mpr ⟨rfl, (fun _ h => absurd h List.not_mem_nil)⟩) rfl ?_
  intro p e s m args below meth c C hin
  refine x_wf (fun hw => ?_)
  obtain ⟨⟨b0, b6, b7⟩, ⟨bk1, bk2, bk3, bk4, bk5, bk8, bk9⟩, ⟨bp0, bp1, bp2, bp3, bp4, bp5, bp6, bp7, bp8⟩, -⟩ := id hB
  have hn0 : 0 ≤ n := by omega
  have rnw : InR nw := by (rw [← hnw]; exact hw.1 _ _)
  have hob : ∀ y ∈ gL G (B 5), gK G y = 12 := fun y hy => by (obtain ⟨i, i0, i1, rfl⟩ := rkAt_mem hl5 hy; exact hpf i i0 i1)
  refine x_aload_n 1 C dX11_dropGonePreflights_0 rfl rfl ?_
  refine x_getO 4 1404 C fr_X11_25 dX11_dropGonePreflights_1 rfl rfl rfl rfl (by assumption) (by assumption) ?_
  refine x_callL (As := []) (ci := 2) 7 0 0 C vw_X11_66 iw_Jx4a65c_size_8abf5 sw_Jx4a65c_size_8abf5 (c_sizev (by assumption) hl5) dX11_dropGonePreflights_4 rfl rfl rfl rfl rfl (Or.inr (Or.inr ⟨rfl, (by assumption)⟩)) ⟨Nat.le_of_ble_eq_true rfl, Nat.le_of_ble_eq_true rfl⟩ (Nat.le_of_ble_eq_true rfl) ⟨Nat.le_refl _, Nat.le_refl _⟩ (fun v G' hq => ?_)
  obtain ⟨rfl, hG9⟩ := hq
  replace hG9 := hG9.symm
  subst hG9
  refine x_as rfl rfl rfl ?_
  refine x_iconst 8 C dX11_dropGonePreflights_7 rfl ?_
  refine x_isub 9 C dX11_dropGonePreflights_8 rfl ?_
  refine x_istore_n 10 C dX11_dropGonePreflights_9 rfl rfl rfl ?_
  refine x_loop (α := Int × List Nat) (fun ⟨k, l1⟩ => (k + 1).toNat) (fun ⟨k, l1⟩ => -1 ≤ k ∧ k < n ∧ l1 = ((gL G (B 5)).take (k + 1).toNat ++ ((gL G (B 5)).drop (k + 1).toNat).filter (fun x => decide (nw < gI G 1205 x)))) (fun ⟨k, l1⟩ => sL G (B 5) l1) (fun ⟨k, l1⟩ => [some (.ref (B 0)), some (.int (i32 k))]) (fun _ => []) (n - 1, gL G (B 5)) ⟨by (try dsimp only); omega, by (try dsimp only); omega, (rkTd_0 hl5).symm⟩ sL_self rfl rfl ?_
  intro aa hI ih
  obtain ⟨k, l1⟩ := aa
  (try dsimp only at hI); (try dsimp only at ih); (try dsimp only)
  obtain ⟨i1, i2, i3⟩ := hI
  have e5 : gL (sL G (B 5) l1) (B 5) = l1 := sL_s
  refine x_iload_n 11 C dX11_dropGonePreflights_10 rfl rfl ?_
  refine x_if_lt 14 50 C dX11_dropGonePreflights_11 rfl (by decide) (by first | assumption | exact ⟨by omega, by omega⟩ | exact hw.1 _ _ | omega) (fun h11 => ?_) (fun h11 => ?_)
  · skip
    exact x_ret C dX11_dropGonePreflights_50 ⟨rfl, by rw [i3, show (k + 1).toNat = 0 by omega]; rfl⟩
  · skip
    have hg : (gL (sL G (B 5) l1) (B 5))[k.toNat]? = some ((gL G (B 5)).getD k.toNat 0) := by (rw [e5, i3]; exact rkTd_get (by omega) (by omega))
    have ck : gK G ((gL G (B 5)).getD k.toNat 0) = 12 := hpf k (by omega) i2
    obtain ⟨g5, hg5⟩ : ∃ g5, g5 = gI G 1205 ((gL G (B 5)).getD k.toNat 0) := ⟨_, rfl⟩
    have rg : InR g5 := by (rw [hg5]; exact hw.1 _ _)
    have hob1 : ∀ y ∈ l1, gK G y = 12 := fun y hy => by (rw [i3] at hy; rcases List.mem_append.mp hy with z | z; exact hob y (List.mem_of_mem_take z); exact hob y (List.mem_of_mem_drop (List.mem_filter.mp z).1))
    refine x_aload_n 15 C dX11_dropGonePreflights_14 rfl rfl ?_
    refine x_getIv 18 1408 C fr_X11_255 dX11_dropGonePreflights_15 rfl rfl rfl rfl (by assumption) (by first | assumption | rfl) ?_
    refine x_aload_n 19 C dX11_dropGonePreflights_18 rfl rfl ?_
    refine x_getO 22 1404 C fr_X11_25 dX11_dropGonePreflights_19 rfl rfl rfl rfl (by assumption) (by assumption) ?_
    refine x_iload_n 23 C dX11_dropGonePreflights_22 rfl rfl ?_
    refine x_callL (As := [_]) (ci := 2) 26 0 0 C vw_X11_151 iw_Jx4a65c_get_915e3 sw_Jx4a65c_get_915e3 (c_get (x := (gL G (B 5)).getD k.toNat 0) (by assumption) (by omega) hg) dX11_dropGonePreflights_23 rfl rfl rfl rfl rfl (Or.inr (Or.inr ⟨rfl, (by assumption)⟩)) ⟨Nat.le_of_ble_eq_true rfl, Nat.le_of_ble_eq_true rfl⟩ (Nat.le_of_ble_eq_true rfl) ⟨Nat.le_refl _, Nat.le_refl _⟩ (fun v G' hq => ?_)
    obtain ⟨rfl, hG9⟩ := hq
    replace hG9 := hG9.symm
    subst hG9
    refine x_as rfl rfl rfl ?_
    refine x_cast 29 C ck_X11_357 rfl rfl ck dX11_dropGonePreflights_26 rfl ?_
    refine x_getIv 32 1205 C fr_X11_384 dX11_dropGonePreflights_29 rfl rfl rfl rfl ck hg5.symm ?_
    refine x_icmp_lt 35 44 C dX11_dropGonePreflights_32 rfl (by decide) (by first | assumption | exact ⟨by omega, by omega⟩ | exact hw.1 _ _ | omega) (by first | assumption | exact ⟨by omega, by omega⟩ | exact hw.1 _ _ | omega) (fun h32 => ?_) (fun h32 => ?_)
    · skip
      refine x_iinc 47 C dX11_dropGonePreflights_44 rfl rfl rfl rfl ?_
      refine x_goto 10 C dX11_dropGonePreflights_47 (by decide) ?_
      first | (have hPk : (fun x => decide (nw < gI G 1205 x)) ((gL G (B 5)).getD k.toNat 0) = true := decide_eq_true (show nw < gI G 1205 ((gL G (B 5)).getD k.toNat 0) from by omega); exact ih (k + -1, l1) ⟨by (try dsimp only); omega, by (try dsimp only); omega, by (try dsimp only); rw [i3]; exact (rkTd_stay (by omega) (by omega) hPk).symm⟩ (by (try dsimp only); omega)) | (have hPk : ¬ (fun x => decide (nw < gI G 1205 x)) ((gL G (B 5)).getD k.toNat 0) = true := (fun z => by (have z2 := of_decide_eq_true z; omega)); exact x_as (by (try dsimp only); rw [sL_sL, e5]) rfl rfl (ih (k + -1, l1.eraseIdx k.toNat) ⟨by (try dsimp only); omega, by (try dsimp only); omega, by (try dsimp only); rw [i3]; exact (rkTd_go (by omega) (by omega) hPk).symm⟩ (by (try dsimp only); omega)))
    · skip
      refine x_aload_n 36 C dX11_dropGonePreflights_35 rfl rfl ?_
      refine x_getO 39 1404 C fr_X11_25 dX11_dropGonePreflights_36 rfl rfl rfl rfl (by assumption) (by assumption) ?_
      refine x_iload_n 40 C dX11_dropGonePreflights_39 rfl rfl ?_
      refine x_as (st' := [.int (i32 ((k.toNat : Nat) : Int)), .ref (B 5)]) rfl rfl (by rw [Int.toNat_of_nonneg (by omega)]; try rfl) ?_
      refine x_callL (As := [_]) (ci := 2) 43 0 0 C vw_X11_387 iw_Jx4a65c_remove_915e3 sw_Jx4a65c_remove_915e3 (c_remove (i := k.toNat) (x := (gL G (B 5)).getD k.toNat 0) (by assumption) hg (fun x hx => by (rw [e5] at hx; have := hob1 x hx; show 3 ≤ gK G x ∧ gK G x ≤ 14; omega))) dX11_dropGonePreflights_40 rfl rfl rfl rfl rfl (Or.inr (Or.inr ⟨rfl, (by assumption)⟩)) ⟨Nat.le_of_ble_eq_true rfl, Nat.le_of_ble_eq_true rfl⟩ (Nat.le_of_ble_eq_true rfl) ⟨Nat.le_refl _, Nat.le_refl _⟩ (fun v G' hq => ?_)
      obtain ⟨rfl, hG9⟩ := hq
      replace hG9 := hG9.symm
      subst hG9
      refine x_as rfl rfl rfl ?_
      refine x_pop 44 C dX11_dropGonePreflights_43 rfl rfl ?_
      refine x_iinc 47 C dX11_dropGonePreflights_44 rfl rfl rfl rfl ?_
      refine x_goto 10 C dX11_dropGonePreflights_47 (by decide) ?_
      first | (have hPk : (fun x => decide (nw < gI G 1205 x)) ((gL G (B 5)).getD k.toNat 0) = true := decide_eq_true (show nw < gI G 1205 ((gL G (B 5)).getD k.toNat 0) from by omega); exact ih (k + -1, l1) ⟨by (try dsimp only); omega, by (try dsimp only); omega, by (try dsimp only); rw [i3]; exact (rkTd_stay (by omega) (by omega) hPk).symm⟩ (by (try dsimp only); omega)) | (have hPk : ¬ (fun x => decide (nw < gI G 1205 x)) ((gL G (B 5)).getD k.toNat 0) = true := (fun z => by (have z2 := of_decide_eq_true z; omega)); exact x_as (by (try dsimp only); rw [sL_sL, e5]) rfl rfl (ih (k + -1, l1.eraseIdx k.toNat) ⟨by (try dsimp only); omega, by (try dsimp only); omega, by (try dsimp only); rw [i3]; exact (rkTd_go (by omega) (by omega) hPk).symm⟩ (by (try dsimp only); omega)))
