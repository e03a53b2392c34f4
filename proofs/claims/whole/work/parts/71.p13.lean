/-! rows laid by program (wip/tools/genp.py) -/
def rkSf (R : RT) (n ho w q : Int) : Nat → Int
  | 0 => -1
  | k + 1 => if R 35 k = n ∧ R 37 k = ho ∧ R 39 k = w ∧ R 41 k = q then (k : Int) else rkSf R n ho w q k
theorem rStF_rk {R : RT} {a who wch : Int} : ∀ n, rStF R a who wch n = rkSf R (R 18 a.toNat) who (R 21 a.toNat) wch n := by
  intro n
  induction n with
  | zero => rfl
  | succ n ih =>
    unfold rStF rkSf
    rw [ih]
theorem rkSf_one {R : RT} {n ho w q : Int} {i : Nat} (ha : R 35 i = n ∧ R 37 i = ho ∧ R 39 i = w ∧ R 41 i = q) : ∀ m : Nat, i < m → (∀ j : Nat, j < m → R 35 j = n → R 37 j = ho → R 39 j = w → R 41 j = q → j = i) → rkSf R n ho w q m = i := by
  intro m
  induction m with
  | zero => intro h; omega
  | succ m ih =>
    intro h hu
    unfold rkSf
    by_cases e : m = i
    · subst e
      rw [if_pos ha]
    · rw [if_neg (fun z => e (hu m (by omega) z.1 z.2.1 z.2.2.1 z.2.2.2))]
      exact ih (by omega) (fun j hj => hu j (by omega))
theorem rkSf_no {R : RT} {n ho w q : Int} : ∀ m : Nat, (∀ j : Nat, j < m → ¬ (R 35 j = n ∧ R 37 j = ho ∧ R 39 j = w ∧ R 41 j = q)) → rkSf R n ho w q m = -1 := by
  intro m
  induction m with
  | zero => intro _; rfl
  | succ m ih =>
    intro h
    unfold rkSf
    rw [if_neg (h m (by omega))]
    exact ih (fun j hj => h j (by omega))
theorem rkSf_in {R : RT} {n ho w q : Int} : ∀ m : Nat, -1 ≤ rkSf R n ho w q m ∧ rkSf R n ho w q m < m := by
  intro m
  induction m with
  | zero => exact ⟨by show (-1 : Int) ≤ -1; omega, by show (-1 : Int) < 0; omega⟩
  | succ m ih =>
    unfold rkSf
    split <;> omega
/-- no two cookies are one -/
def rkCu (R : RT) : Prop := ∀ i j : Nat, (i : Int) < R 34 0 → (j : Int) < R 34 0 → R 35 i = R 35 j → R 37 i = R 37 j → R 39 i = R 39 j → R 41 i = R 41 j → i = j
def rkBk (R : RT) (n w d q : Int) (k : Nat) : Bool := rHas (R 40 k) 1 && (decide (R 35 k = n) && ((decide (R 41 k = -1) || decide (R 41 k = q)) && ((rIn R (R 37 k) d || rIn R d (R 37 k)) && rBegins (R 39 k) w)))
def rkBr (R : RT) (n w d q : Int) : Nat → Bool
  | 0 => false
  | k + 1 => rkBr R n w d q k || rkBk R n w d q k
theorem rkBr_mono {R : RT} {n w d q : Int} {k : Nat} (h : rkBr R n w d q k = true) : ∀ m, k ≤ m → rkBr R n w d q m = true := by
  intro m
  induction m with
  | zero => intro hk; rw [show k = 0 by omega] at h; exact h
  | succ m ih =>
    intro hk
    by_cases c : k = m + 1
    · rw [← c]; exact h
    · rw [rkBr, ih (by omega)]
      rfl
theorem rBarF_rk {R : RT} {a d w : Int} : ∀ n, rBarF R a d w n = rkBr R (R 18 a.toNat) (R 21 a.toNat) d w n := by
  intro n
  induction n with
  | zero => rfl
  | succ n ih =>
    unfold rBarF rkBr
    rw [ih]
    rfl
set_option maxHeartbeats 2000000 in
set_option maxRecDepth 100000 in
theorem c_X6_placeOfSame {E : EV} {l : Launch} {G : GT} {B : Nat → Nat} {R : RT} (hW : rkW G B R) (hC : rkC G B R) (hRC : RC R) (hU : rkCu R) {y : Nat} {n0 v0 w0 f0 t0 ho0 al0 q0 go0 : Int} (hy : rkCo G B y n0 v0 w0 f0 t0 ho0 al0 (rkPm q0) go0) (ho2 : 0 ≤ ho0 ∧ ho0 < R 3 0) (hq0 : -1 ≤ q0 ∧ q0 ≤ 31) : MT E l yX6_placeOfSame cX6_placeOfSame 3 (some .int) 3 64 0 0 [.ref (B 6), .ref y] (G) (pD (some (.int (i32 (rkSf R n0 ho0 w0 q0 (R 34 0).toNat)))) (G)) := by
  refine mt_of (own := RX6) (L := [some (.ref (B 6)), some (.ref y), none]) (by decide +kernel) rfl (Nat.le_of_ble_eq_true rfl) (List.forall_mem_cons.mpr ⟨rfl, (List.forall_mem_cons.mpr ⟨rfl, (fun _ h => absurd h List.not_mem_nil)⟩)⟩) rfl ?_
  intro p e s m args below meth c C hin
  refine x_wf (fun hw => ?_)
  obtain ⟨hB, hH, hA, hP, hI⟩ := id hW
  obtain ⟨⟨b0, b6, b7⟩, ⟨bk1, bk2, bk3, bk4, bk5, bk8, bk9⟩, ⟨bp0, bp1, bp2, bp3, bp4, bp5, bp6, bp7, bp8⟩, -⟩ := id hB
  obtain ⟨hl1, hh1⟩ := id hH
  obtain ⟨hl2, hh2⟩ := id hA
  obtain ⟨hl3, hh3⟩ := id hP
  obtain ⟨iH, iA, iAd, iHl, iP, iS, hRw, iU⟩ := id hI
  have iH1 := iH.1
  have iA1 := iA.1
  have iA2 := iA.2
  have iP1 := iP.1
  obtain ⟨hl8, hh8, hij8, hor8, hlu8, hub8⟩ := id hC
  have iC1 := hRC.1
  refine x_iconst 1 C dX6_placeOfSame_0 rfl ?_
  refine x_istore_n 2 C dX6_placeOfSame_1 rfl rfl rfl ?_
  refine x_loop (α := Int) (fun k => (12 - k).toNat) (fun k => 0 ≤ k ∧ k ≤ R 34 0 ∧ ∀ j : Nat, (j : Int) < k → ¬ (R 35 j = n0 ∧ R 37 j = ho0 ∧ R 39 j = w0 ∧ R 41 j = q0)) (fun k => G) (fun k => [some (.ref (B 6)), some (.ref y), some (.int (i32 k))]) (fun _ => []) 0 ⟨by omega, by omega, fun j hj => by omega⟩ rfl rfl rfl ?_
  intro aa hI ih
  obtain ⟨k, rfl⟩ := (⟨aa, rfl⟩ : ∃ z, z = aa)
  (try dsimp only at hI); (try dsimp only at ih); (try dsimp only)
  obtain ⟨i1, i2, i3⟩ := hI
  refine x_iload_n 3 C dX6_placeOfSame_2 rfl rfl ?_
  refine x_aload_n 4 C dX6_placeOfSame_3 rfl rfl ?_
  refine x_getO 7 900 C fr_X6_12 dX6_placeOfSame_4 rfl rfl rfl rfl (by assumption) (by assumption) ?_
  refine x_callL (As := []) (ci := 2) 10 0 0 C vw_X6_18 iw_Jx4a65c_size_8abf5 sw_Jx4a65c_size_8abf5 (c_sizev (by assumption) hl8) dX6_placeOfSame_7 rfl rfl rfl rfl rfl (Or.inr (Or.inr ⟨rfl, (by assumption)⟩)) ⟨Nat.le_of_ble_eq_true rfl, Nat.le_of_ble_eq_true rfl⟩ (Nat.le_of_ble_eq_true rfl) ⟨Nat.le_refl _, Nat.le_refl _⟩ (fun v G' hq => ?_)
  obtain ⟨rfl, hG9⟩ := hq
  replace hG9 := hG9.symm
  subst hG9
  refine x_as rfl rfl rfl ?_
  refine x_icmp_ge 13 39 C dX6_placeOfSame_10 rfl (by decide) (by first | exact hRw _ _ | assumption | exact ⟨by omega, by omega⟩ | exact hw.1 _ _ | omega) (by first | exact hRw _ _ | assumption | exact ⟨by omega, by omega⟩ | exact hw.1 _ _ | omega) (fun h10 => ?_) (fun h10 => ?_)
  · skip
    refine x_iconst 40 C dX6_placeOfSame_39 rfl ?_
    exact x_iret C dX6_placeOfSame_40 rfl ⟨vi (by rw [rkSf_no (R 34 0).toNat (fun j hj => i3 j (by omega))]), rfl⟩
  · skip
    obtain ⟨tk, gok, xk, agk, prk, alk⟩ := hh8 k i1 (by omega)
    obtain ⟨uk1, uk2, uk3, uk4⟩ := hRC.2 k.toNat (by omega)
    have xkk := xk.1
    refine x_aload_n 14 C dX6_placeOfSame_13 rfl rfl ?_
    refine x_getO 17 900 C fr_X6_12 dX6_placeOfSame_14 rfl rfl rfl rfl (by assumption) (by assumption) ?_
    refine x_iload_n 18 C dX6_placeOfSame_17 rfl rfl ?_
    refine x_callL (As := [_]) (ci := 2) 21 0 0 C vw_X6_22 iw_Jx4a65c_get_915e3 sw_Jx4a65c_get_915e3 (c_get (x := rkAt G (B 8) k) (by assumption) (by omega) (rkAt_get hl8 (by omega) (by omega))) dX6_placeOfSame_18 rfl rfl rfl rfl rfl (Or.inr (Or.inr ⟨rfl, (by assumption)⟩)) ⟨Nat.le_of_ble_eq_true rfl, Nat.le_of_ble_eq_true rfl⟩ (Nat.le_of_ble_eq_true rfl) ⟨Nat.le_refl _, Nat.le_refl _⟩ (fun v G' hq => ?_)
    obtain ⟨rfl, hG9⟩ := hq
    replace hG9 := hG9.symm
    subst hG9
    refine x_as rfl rfl rfl ?_
    refine x_cast 24 C ck_X6_26 rfl rfl xkk dX6_placeOfSame_21 rfl ?_
    refine x_aload_n 25 C dX6_placeOfSame_24 rfl rfl ?_
    refine x_callV (As := [_]) 28 5 0 0 C vw_X6_167 iw_X2_isSame sw_X2_isSame (c_X2_isSame hW xk hy uk1 ho2) dX6_placeOfSame_25 rfl rfl rfl rfl rfl rfl (by assumption) ⟨Nat.le_of_ble_eq_true rfl, Nat.le_of_ble_eq_true rfl⟩ (Nat.le_of_ble_eq_true rfl) ⟨Nat.le_refl _, Nat.le_refl _⟩ (fun v G' hq => ?_)
    obtain ⟨rfl, hG9⟩ := hq
    replace hG9 := hG9.symm
    subst hG9
    refine x_as rfl rfl rfl ?_
    refine x_if_eqB 31 33 C dX6_placeOfSame_28 rfl (by decide) (fun h28 => ?_) (fun h28 => ?_)
    · skip
      refine x_iinc 36 C dX6_placeOfSame_33 rfl rfl rfl rfl ?_
      refine x_goto 2 C dX6_placeOfSame_36 (by decide) ?_
      have hno : ¬ (R 35 k.toNat = n0 ∧ R 37 k.toNat = ho0 ∧ R 39 k.toNat = w0 ∧ R 41 k.toNat = q0) := fun z => by (rw [decide_eq_true z.1, decide_eq_true z.2.1, decide_eq_true z.2.2.1, decide_eq_true (show rkPm (R 41 k.toNat) = rkPm q0 by rw [z.2.2.2])] at h28; cases h28)
      exact ih (k + 1) ⟨by omega, by omega, fun j hj z => by (exact (if c : (j : Int) = k then hno (by rw [← c, Int.toNat_natCast]; exact z) else i3 j (by omega) z))⟩ (by (try dsimp only); omega)
    · skip
      have h28a := (Bool.and_eq_true _ _).mp h28
      have h28b := (Bool.and_eq_true _ _).mp h28a.2
      have h28c := (Bool.and_eq_true _ _).mp h28b.2
      have e1 := of_decide_eq_true h28a.1
      have e2 := of_decide_eq_true h28b.1
      have e3 := of_decide_eq_true h28c.1
      have e4 := (rkPm_inj prk hq0).mp (of_decide_eq_true h28c.2)
      refine x_iload_n 32 C dX6_placeOfSame_31 rfl rfl ?_
      exact x_iret C dX6_placeOfSame_32 rfl ⟨vi (by rw [rkSf_one (i := k.toNat) ⟨e1, e2, e3, e4⟩ (R 34 0).toNat (by omega) (fun j hj q1 q2 q3 q4 => hU j k.toNat (by omega) (by omega) (q1.trans e1.symm) (q2.trans e2.symm) (q3.trans e3.symm) (q4.trans e4.symm))]; omega), rfl⟩
set_option maxHeartbeats 2000000 in
set_option maxRecDepth 100000 in
theorem c_X6_removeAt {E : EV} {l : Launch} {G : GT} {B : Nat → Nat} {R : RT} (hW : rkW G B R) (hC : rkC G B R) (hRC : RC R) {p1 : Int} (hp : -1 ≤ p1 ∧ p1 < R 34 0) : MT E l yX6_removeAt cX6_removeAt 2 none 3 106 0 0 [.ref (B 6), .int (i32 p1)] (G) (pD none (if p1 = -1 then G else sL G (B 8) ((gL G (B 8)).eraseIdx p1.toNat))) := by
  refine mt_of (own := RX6) (L := [some (.ref (B 6)), some (.int (i32 p1))]) (by decide +kernel) rfl (Nat.le_of_ble_eq_true rfl) (List.forall_mem_cons.mpr ⟨rfl, (List.forall_mem_cons.mpr ⟨rfl, (fun _ h => absurd h List.not_mem_nil)⟩)⟩) rfl ?_
  intro p e s m args below meth c C hin
  refine x_wf (fun hw => ?_)
  obtain ⟨hB, hH, hA, hP, hI⟩ := id hW
  obtain ⟨⟨b0, b6, b7⟩, ⟨bk1, bk2, bk3, bk4, bk5, bk8, bk9⟩, ⟨bp0, bp1, bp2, bp3, bp4, bp5, bp6, bp7, bp8⟩, -⟩ := id hB
  obtain ⟨hl1, hh1⟩ := id hH
  obtain ⟨hl2, hh2⟩ := id hA
  obtain ⟨hl3, hh3⟩ := id hP
  obtain ⟨iH, iA, iAd, iHl, iP, iS, hRw, iU⟩ := id hI
  have iH1 := iH.1
  have iA1 := iA.1
  have iA2 := iA.2
  have iP1 := iP.1
  obtain ⟨hl8, hh8, hij8, hor8, hlu8, hub8⟩ := id hC
  have iC1 := hRC.1
  refine x_iload_n 1 C dX6_removeAt_0 rfl rfl ?_
  refine x_if_lt 4 24 C dX6_removeAt_1 rfl (by decide) (by first | exact hRw _ _ | assumption | exact ⟨by omega, by omega⟩ | exact hw.1 _ _ | omega) (fun h1 => ?_) (fun h1 => ?_)
  · skip
    exact x_ret C dX6_removeAt_24 ⟨rfl, (if_pos (by omega)).symm⟩
  · skip
    refine x_iload_n 5 C dX6_removeAt_4 rfl rfl ?_
    refine x_aload_n 6 C dX6_removeAt_5 rfl rfl ?_
    refine x_getO 9 900 C fr_X6_12 dX6_removeAt_6 rfl rfl rfl rfl (by assumption) (by assumption) ?_
    refine x_callL (As := []) (ci := 2) 12 0 0 C vw_X6_18 iw_Jx4a65c_size_8abf5 sw_Jx4a65c_size_8abf5 (c_sizev (by assumption) hl8) dX6_removeAt_9 rfl rfl rfl rfl rfl (Or.inr (Or.inr ⟨rfl, (by assumption)⟩)) ⟨Nat.le_of_ble_eq_true rfl, Nat.le_of_ble_eq_true rfl⟩ (Nat.le_of_ble_eq_true rfl) ⟨Nat.le_refl _, Nat.le_refl _⟩ (fun v G' hq => ?_)
    obtain ⟨rfl, hG9⟩ := hq
    replace hG9 := hG9.symm
    subst hG9
    refine x_as rfl rfl rfl ?_
    refine x_icmp_ge 15 24 C dX6_removeAt_12 rfl (by decide) (by first | exact hRw _ _ | assumption | exact ⟨by omega, by omega⟩ | exact hw.1 _ _ | omega) (by first | exact hRw _ _ | assumption | exact ⟨by omega, by omega⟩ | exact hw.1 _ _ | omega) (fun h12 => ?_) (fun h12 => ?_)
    · skip
      exact absurd h12 (by omega)
    · skip
      refine x_aload_n 16 C dX6_removeAt_15 rfl rfl ?_
      refine x_getO 19 900 C fr_X6_12 dX6_removeAt_16 rfl rfl rfl rfl (by assumption) (by assumption) ?_
      refine x_iload_n 20 C dX6_removeAt_19 rfl rfl ?_
      refine x_as (st' := [.int (i32 ((p1.toNat : Nat) : Int)), .ref (B 8)]) rfl rfl (by rw [Int.toNat_of_nonneg (by omega)]; try rfl) ?_
      refine x_callL (As := [_]) (ci := 2) 23 0 0 C vw_X6_32 iw_Jx4a65c_remove_915e3 sw_Jx4a65c_remove_915e3 (c_remove (i := p1.toNat) (x := rkAt G (B 8) p1) (by assumption) (rkAt_get hl8 (by omega) (by omega)) (fun x hx => by (obtain ⟨i, i0, i1, rfl⟩ := rkAt_mem hl8 hx; have := rkC_k hC i0 i1; show 3 ≤ gK G _ ∧ gK G _ ≤ 14; omega))) dX6_removeAt_20 rfl rfl rfl rfl rfl (Or.inr (Or.inr ⟨rfl, (by assumption)⟩)) ⟨Nat.le_of_ble_eq_true rfl, Nat.le_of_ble_eq_true rfl⟩ (Nat.le_of_ble_eq_true rfl) ⟨Nat.le_refl _, Nat.le_refl _⟩ (fun v G' hq => ?_)
      obtain ⟨rfl, hG9⟩ := hq
      replace hG9 := hG9.symm
      subst hG9
      refine x_as rfl rfl rfl ?_
      refine x_pop 24 C dX6_removeAt_23 rfl rfl ?_
      exact x_ret C dX6_removeAt_24 ⟨rfl, (if_neg (by omega)).symm⟩
set_option maxHeartbeats 2000000 in
set_option maxRecDepth 100000 in
theorem c_X6_put {E : EV} {l : Launch} {G : GT} {B : Nat → Nat} {R : RT} (hW : rkW G B R) (hC : rkC G B R) (hRC : RC R) {y : Nat} {p1 : Int} (hy5 : gK G y = 5) (hp : -1 ≤ p1 ∧ p1 < R 34 0) (hlm : gI G 901 (B 6) ≤ 1000000) : MT E l yX6_put cX6_put 3 none 7 191 1 20 [.ref (B 6), .ref y, .int (i32 p1)] (G) (pD none (sL (sI (sI G 901 (B 6) (gI G 901 (B 6) + 1)) 505 y (gI G 901 (B 6) + 1)) (B 8) (if p1 = -1 then gL G (B 8) ++ [y] else (gL G (B 8)).set p1.toNat y))) := by
  refine mt_of (own := RX6) (L := [some (.ref (B 6)), some (.ref y), some (.int (i32 p1))]) (by decide +kernel) rfl (Nat.le_of_ble_eq_true rfl) (List.forall_mem_cons.mpr ⟨rfl, (List.forall_mem_cons.mpr ⟨rfl, (List.forall_mem_cons.mpr ⟨rfl, (fun _ h => absurd h List.not_mem_nil)⟩)⟩)⟩) rfl ?_
  intro p e s m args below meth c C hin
  refine x_wf (fun hw => ?_)
  obtain ⟨hB, hH, hA, hP, hI⟩ := id hW
  obtain ⟨⟨b0, b6, b7⟩, ⟨bk1, bk2, bk3, bk4, bk5, bk8, bk9⟩, ⟨bp0, bp1, bp2, bp3, bp4, bp5, bp6, bp7, bp8⟩, -⟩ := id hB
  obtain ⟨hl1, hh1⟩ := id hH
  obtain ⟨hl2, hh2⟩ := id hA
  obtain ⟨hl3, hh3⟩ := id hP
  obtain ⟨iH, iA, iAd, iHl, iP, iS, hRw, iU⟩ := id hI
  have iH1 := iH.1
  have iA1 := iA.1
  have iA2 := iA.2
  have iP1 := iP.1
  obtain ⟨hl8, hh8, hij8, hor8, hlu8, hub8⟩ := id hC
  have iC1 := hRC.1
  refine x_aload_n 1 C dX6_put_0 rfl rfl ?_
  refine x_aload_n 2 C dX6_put_1 rfl rfl ?_
  refine x_callV (As := [_]) 5 9 1 20 C vw_X6_63 iw_X6_noteUse sw_X6_noteUse (c_X6_noteUse b6 hy5 rfl ⟨hlu8.1, hlm⟩) dX6_put_2 rfl rfl rfl rfl rfl rfl (by assumption) ⟨Nat.le_of_ble_eq_true rfl, Nat.le_of_ble_eq_true rfl⟩ (Nat.le_of_ble_eq_true rfl) ⟨Nat.le_refl _, Nat.le_refl _⟩ (fun v G' hq => ?_)
  obtain ⟨rfl, hG9⟩ := hq
  replace hG9 := hG9.symm
  subst hG9
  refine x_as rfl rfl rfl ?_
  refine x_iload_n 6 C dX6_put_5 rfl rfl ?_
  refine x_if_lt 9 33 C dX6_put_6 rfl (by decide) (by first | exact hRw _ _ | assumption | exact ⟨by omega, by omega⟩ | exact hw.1 _ _ | omega) (fun h6 => ?_) (fun h6 => ?_)
  · skip
    refine x_aload_n 34 C dX6_put_33 rfl rfl ?_
    refine x_getO 37 900 C fr_X6_12 dX6_put_34 rfl rfl rfl rfl (by assumption) (by assumption) ?_
    refine x_aload_n 38 C dX6_put_37 rfl rfl ?_
    refine x_callL (As := [_]) (ci := 2) 41 0 0 C vw_X6_175 iw_Jx4a65c_add_9ea2d sw_Jx4a65c_add_9ea2d (c_add (ms := 20) (by assumption) (show 3 ≤ gK G y ∧ gK G y ≤ 14 by omega) (fun x hx => by (obtain ⟨i, i0, i1, rfl⟩ := rkAt_mem hl8 hx; have := rkC_k hC i0 i1; show 3 ≤ gK G _ ∧ gK G _ ≤ 14; omega)) (show (gL G (B 8)).length ≤ 600 ∧ 10 ≤ 20 ∧ (gL G (B 8)).length + (gL G (B 8)).length / 2 ≤ 20 by omega)) dX6_put_38 rfl rfl rfl rfl rfl (Or.inr (Or.inr ⟨rfl, (by assumption)⟩)) ⟨Nat.le_of_ble_eq_true rfl, Nat.le_of_ble_eq_true rfl⟩ (Nat.le_of_ble_eq_true rfl) ⟨by omega, by omega⟩ (fun v G' hq => ?_)
    obtain ⟨rfl, hG9⟩ := hq
    replace hG9 := hG9.symm
    subst hG9
    refine x_as rfl rfl rfl ?_
    refine x_pop 42 C dX6_put_41 rfl rfl ?_
    exact x_ret C dX6_put_42 ⟨rfl, by rw [if_pos (show p1 = -1 by omega)]; rfl⟩
  · skip
    refine x_iload_n 10 C dX6_put_9 rfl rfl ?_
    refine x_aload_n 11 C dX6_put_10 rfl rfl ?_
    refine x_getO 14 900 C fr_X6_12 dX6_put_11 rfl rfl rfl rfl (by assumption) (by assumption) ?_
    refine x_callL (As := []) (ci := 2) 17 1 20 C vw_X6_18 iw_Jx4a65c_size_8abf5 sw_Jx4a65c_size_8abf5 (c_sizev (by assumption) hl8) dX6_put_14 rfl rfl rfl rfl rfl (Or.inr (Or.inr ⟨rfl, (by assumption)⟩)) ⟨Nat.le_of_ble_eq_true rfl, Nat.le_of_ble_eq_true rfl⟩ (Nat.le_of_ble_eq_true rfl) ⟨Nat.le_refl _, Nat.le_refl _⟩ (fun v G' hq => ?_)
    obtain ⟨rfl, hG9⟩ := hq
    replace hG9 := hG9.symm
    subst hG9
    refine x_as rfl rfl rfl ?_
    refine x_icmp_ge 20 33 C dX6_put_17 rfl (by decide) (by first | exact hRw _ _ | assumption | exact ⟨by omega, by omega⟩ | exact hw.1 _ _ | omega) (by first | exact hRw _ _ | assumption | exact ⟨by omega, by omega⟩ | exact hw.1 _ _ | omega) (fun h17 => ?_) (fun h17 => ?_)
    · skip
      exact absurd h17 (by omega)
    · skip
      refine x_aload_n 21 C dX6_put_20 rfl rfl ?_
      refine x_getO 24 900 C fr_X6_12 dX6_put_21 rfl rfl rfl rfl (by assumption) (by assumption) ?_
      refine x_iload_n 25 C dX6_put_24 rfl rfl ?_
      refine x_aload_n 26 C dX6_put_25 rfl rfl ?_
      refine x_as (st' := [.ref y, .int (i32 ((p1.toNat : Nat) : Int)), .ref (B 8)]) rfl rfl (by rw [Int.toNat_of_nonneg (by omega)]; try rfl) ?_
      refine x_callL (As := [_, _]) (ci := 2) 29 1 20 C vw_X6_171 iw_Jx4a65c_set_bcc79 sw_Jx4a65c_set_bcc79 (c_set (i := p1.toNat) (x := rkAt G (B 8) p1) (by assumption) (rkAt_get hl8 (by omega) (by omega)) (show 3 ≤ gK G y ∧ gK G y ≤ 14 by omega)) dX6_put_26 rfl rfl rfl rfl rfl (Or.inr (Or.inr ⟨rfl, (by assumption)⟩)) ⟨Nat.le_of_ble_eq_true rfl, Nat.le_of_ble_eq_true rfl⟩ (Nat.le_of_ble_eq_true rfl) ⟨Nat.le_refl _, Nat.le_refl _⟩ (fun v G' hq => ?_)
      obtain ⟨rfl, hG9⟩ := hq
      replace hG9 := hG9.symm
      subst hG9
      refine x_as rfl rfl rfl ?_
      refine x_pop 30 C dX6_put_29 rfl rfl ?_
      refine x_goto 42 C dX6_put_30 (by decide) ?_
      exact x_ret C dX6_put_42 ⟨rfl, by rw [if_neg (show ¬ p1 = -1 by omega)]; rfl⟩
set_option maxHeartbeats 2000000 in
set_option maxRecDepth 100000 in
theorem c_X6_isUnderSecureOne {E : EV} {l : Launch} {G : GT} {B : Nat → Nat} {R : RT} (hW : rkW G B R) (hC : rkC G B R) (hRC : RC R) {y : Nat} {n0 v0 w0 f0 t0 ho0 al0 pt0 go0 : Int} (hy : rkCo G B y n0 v0 w0 f0 t0 ho0 al0 pt0 go0) {hp : Nat} {a me ta af nv q1 : Int} (hh : rkHv G B hp a me ta af nv (rkPm q1)) (h0 : 0 ≤ a ∧ a < R 7 0) (ho2 : 0 ≤ ho0 ∧ ho0 < R 3 0) (hw0 : 0 ≤ w0 ∧ w0 ≤ 999) (hq1 : -1 ≤ q1 ∧ q1 ≤ 31) : MT E l yX6_isUnderSecureOne cX6_isUnderSecureOne 6 (some .boolean) 3 64 0 0 [.ref (B 6), .ref y, .ref hp] (G) (pD (some (.int (i32 (bI (decide (R 8 a.toNat = 0) && rkBr R n0 w0 ho0 q1 (R 34 0).toNat))))) (G)) := by
  refine mt_of (own := RX6) (L := [some (.ref (B 6)), some (.ref y), some (.ref hp), none, none, none]) (by decide +kernel) rfl (Nat.le_of_ble_eq_true rfl) (List.forall_mem_cons.mpr ⟨rfl, (List.forall_mem_cons.mpr ⟨rfl, (List.forall_mem_cons.mpr ⟨rfl, (fun _ h => absurd h List.not_mem_nil)⟩)⟩)⟩) rfl ?_
  intro p e s m args below meth c C hin
  refine x_wf (fun hw => ?_)
  obtain ⟨hB, hH, hA, hP, hI⟩ := id hW
  obtain ⟨⟨b0, b6, b7⟩, ⟨bk1, bk2, bk3, bk4, bk5, bk8, bk9⟩, ⟨bp0, bp1, bp2, bp3, bp4, bp5, bp6, bp7, bp8⟩, -⟩ := id hB
  obtain ⟨hl1, hh1⟩ := id hH
  obtain ⟨hl2, hh2⟩ := id hA
  obtain ⟨hl3, hh3⟩ := id hP
  obtain ⟨iH, iA, iAd, iHl, iP, iS, hRw, iU⟩ := id hI
  have iH1 := iH.1
  have iA1 := iA.1
  have iA2 := iA.2
  have iP1 := iP.1
  obtain ⟨hl8, hh8, hij8, hor8, hlu8, hub8⟩ := id hC
  have iC1 := hRC.1
  obtain ⟨hk, hp0, hp1, hp2, hp3, hp4, hp5⟩ := id hh
  obtain ⟨ck0, ⟨cl0, cp0, lk0, l00, l10, l30, l40, l50⟩, cq0, c20, c30, c40⟩ := id hy
  have rn0 : InR n0 := by (rw [← l00]; exact hw.1 _ _)
  have rv0 : InR v0 := by (rw [← l10]; exact hw.1 _ _)
  have rw0 : InR w0 := by (rw [← l30]; exact hw.1 _ _)
  have rf0 : InR f0 := by (rw [← l40]; exact hw.1 _ _)
  have rt0 : InR t0 := by (rw [← l50]; exact hw.1 _ _)
  have ral0 : InR al0 := by (rw [← c20]; exact hw.1 _ _)
  have rpt0 : InR pt0 := by (rw [← c30]; exact hw.1 _ _)
  have rgo0 : InR go0 := by (rw [← c40]; exact hw.1 _ _)
  obtain ⟨⟨a1, a2, a3, a4, a5, a6⟩, -⟩ := hh2 a h0.1 h0.2
  obtain ⟨d1, d2, d3, d4, -⟩ := iAd a.toNat (by omega)
  have gk2 := (hh1 ho0 ho2.1 ho2.2).1
  refine x_aload_n 1 C dX6_isUnderSecureOne_0 rfl rfl ?_
  refine x_getO 4 700 C fr_X6_66 dX6_isUnderSecureOne_1 rfl rfl rfl rfl (by assumption) (by assumption) ?_
  refine x_getIv 7 301 C fr_X6_99 dX6_isUnderSecureOne_4 rfl rfl rfl rfl (by assumption) (by first | assumption | rfl) ?_
  refine x_if_eq 10 12 C dX6_isUnderSecureOne_7 rfl (by decide) (by first | exact hRw _ _ | assumption | exact ⟨by omega, by omega⟩ | exact hw.1 _ _ | omega) (fun h7 => ?_) (fun h7 => ?_)
  · skip
    refine x_iconst 13 C dX6_isUnderSecureOne_12 rfl ?_
    refine x_istore_n 14 C dX6_isUnderSecureOne_13 rfl rfl rfl ?_
    refine x_loop (α := Int) (fun k => (12 - k).toNat) (fun k => 0 ≤ k ∧ k ≤ R 34 0 ∧ rkBr R n0 w0 ho0 q1 k.toNat = false) (fun k => G) (fun k => [some (.ref (B 6)), some (.ref y), some (.ref hp), some (.int (i32 k)), none, none]) (fun _ => []) 0 ⟨by omega, by omega, rfl⟩ rfl rfl rfl ?_
    intro aa hI ih
    obtain ⟨k, rfl⟩ := (⟨aa, rfl⟩ : ∃ z, z = aa)
    (try dsimp only at hI); (try dsimp only at ih); (try dsimp only)
    obtain ⟨i1, i2, i3⟩ := hI
    refine x_iload_n 15 C dX6_isUnderSecureOne_14 rfl rfl ?_
    refine x_aload_n 16 C dX6_isUnderSecureOne_15 rfl rfl ?_
    refine x_getO 19 900 C fr_X6_12 dX6_isUnderSecureOne_16 rfl rfl rfl rfl (by assumption) (by assumption) ?_
    refine x_callL (As := []) (ci := 2) 22 0 0 C vw_X6_18 iw_Jx4a65c_size_8abf5 sw_Jx4a65c_size_8abf5 (c_sizev (by assumption) hl8) dX6_isUnderSecureOne_19 rfl rfl rfl rfl rfl (Or.inr (Or.inr ⟨rfl, (by assumption)⟩)) ⟨Nat.le_of_ble_eq_true rfl, Nat.le_of_ble_eq_true rfl⟩ (Nat.le_of_ble_eq_true rfl) ⟨Nat.le_refl _, Nat.le_refl _⟩ (fun v G' hq => ?_)
    obtain ⟨rfl, hG9⟩ := hq
    replace hG9 := hG9.symm
    subst hG9
    refine x_as rfl rfl rfl ?_
    refine x_icmp_ge 25 148 C dX6_isUnderSecureOne_22 rfl (by decide) (by first | exact hRw _ _ | assumption | exact ⟨by omega, by omega⟩ | exact hw.1 _ _ | omega) (by first | exact hRw _ _ | assumption | exact ⟨by omega, by omega⟩ | exact hw.1 _ _ | omega) (fun h22 => ?_) (fun h22 => ?_)
    · skip
      refine x_iconst 149 C dX6_isUnderSecureOne_148 rfl ?_
      exact x_iret C dX6_isUnderSecureOne_149 rfl ⟨vi (by rw [show (R 34 0).toNat = k.toNat by omega, i3, Bool.and_false]; rfl), rfl⟩
    · skip
      obtain ⟨tk, gok, xk, agk, prk, alk⟩ := hh8 k i1 (by omega)
      obtain ⟨uk1, uk2, uk3, uk4⟩ := hRC.2 k.toNat (by omega)
      have xkk := xk.1
      obtain ⟨ck, ⟨cl, cp, lk, l0, l1, l3, l4, l5⟩, cq, c2, c3, c4⟩ := id xk
      have hse : (decide (R 41 k.toNat = -1) || decide (R 41 k.toNat = q1)) = (decide (rkPm (R 41 k.toNat) = -1) || decide (rkPm (R 41 k.toNat) = rkPm q1)) := by (rw [decide_eq_decide.mpr (rkPm_no prk), decide_eq_decide.mpr (rkPm_inj prk hq1)])
      have gk3 := (hh1 (R 37 k.toNat) uk1.1 uk1.2).1
      refine x_aload_n 26 C dX6_isUnderSecureOne_25 rfl rfl ?_
      refine x_getO 29 900 C fr_X6_12 dX6_isUnderSecureOne_26 rfl rfl rfl rfl (by assumption) (by assumption) ?_
      refine x_iload_n 30 C dX6_isUnderSecureOne_29 rfl rfl ?_
      refine x_callL (As := [_]) (ci := 2) 33 0 0 C vw_X6_22 iw_Jx4a65c_get_915e3 sw_Jx4a65c_get_915e3 (c_get (x := rkAt G (B 8) k) (by assumption) (by omega) (rkAt_get hl8 (by omega) (by omega))) dX6_isUnderSecureOne_30 rfl rfl rfl rfl rfl (Or.inr (Or.inr ⟨rfl, (by assumption)⟩)) ⟨Nat.le_of_ble_eq_true rfl, Nat.le_of_ble_eq_true rfl⟩ (Nat.le_of_ble_eq_true rfl) ⟨Nat.le_refl _, Nat.le_refl _⟩ (fun v G' hq => ?_)
      obtain ⟨rfl, hG9⟩ := hq
      replace hG9 := hG9.symm
      subst hG9
      refine x_as rfl rfl rfl ?_
      refine x_cast 36 C ck_X6_26 rfl rfl xkk dX6_isUnderSecureOne_33 rfl ?_
      refine x_astore 38 C dX6_isUnderSecureOne_36 rfl rfl rfl ?_
      refine x_joinv 73 (fun vJ => vJ = bI (rIn R (R 37 k.toNat) ho0 || rIn R ho0 (R 37 k.toNat))) ?_ (fun hJ73 => ?_)
      · intro vJ hJ
        subst hJ
        refine x_istore 75 C dX6_isUnderSecureOne_73 rfl rfl rfl ?_
        refine x_aload 77 C dX6_isUnderSecureOne_75 rfl rfl ?_
        refine x_getO 80 500 C fr_X6_40 dX6_isUnderSecureOne_77 rfl rfl rfl rfl (by assumption) (by assumption) ?_
        refine x_iconst 81 C dX6_isUnderSecureOne_80 rfl ?_
        refine x_callV (As := [_]) 84 6 0 0 C vw_X6_96 iw_X3_has sw_X3_has (c_X3_has (by assumption) (by assumption) ⟨by omega, by omega⟩) dX6_isUnderSecureOne_81 rfl rfl rfl rfl rfl rfl (by assumption) ⟨Nat.le_of_ble_eq_true rfl, Nat.le_of_ble_eq_true rfl⟩ (Nat.le_of_ble_eq_true rfl) ⟨Nat.le_refl _, Nat.le_refl _⟩ (fun v G' hq => ?_)
        obtain ⟨rfl, hG9⟩ := hq
        replace hG9 := hG9.symm
        subst hG9
        refine x_as rfl rfl rfl ?_
        refine x_if_eqB 87 142 C dX6_isUnderSecureOne_84 rfl (by decide) (fun h84 => ?_) (fun h84 => ?_)
        · skip
          refine x_iinc 145 C dX6_isUnderSecureOne_142 rfl rfl rfl rfl ?_
          refine x_goto 14 C dX6_isUnderSecureOne_145 (by decide) ?_
          refine x_as rfl rfl rfl (x_less ?_ (ih (k + 1) ⟨by omega, by omega, by (rw [show (k + 1).toNat = k.toNat + 1 by omega, rkBr, i3, Bool.false_or]; unfold rkBk; first | (rw [h84]; rfl) | (rw [h84, decide_eq_false h102]; rfl) | (rw [h84, decide_eq_true h102, hse, h111]; rfl) | (rw [h84, decide_eq_true h102, hse, h111, h116]; rfl) | (rw [h84, decide_eq_true h102, hse, h111, h116, h137]; rfl))⟩ (by (try dsimp only); omega))); exact ⟨rfl, rfl, rfl, rfl, trivial⟩
        · skip
          refine x_aload 89 C dX6_isUnderSecureOne_87 rfl rfl ?_
          refine x_getO 92 500 C fr_X6_40 dX6_isUnderSecureOne_89 rfl rfl rfl rfl (by assumption) (by assumption) ?_
          refine x_getIv 95 600 C fr_X6_164 dX6_isUnderSecureOne_92 rfl rfl rfl rfl (by assumption) (by first | assumption | rfl) ?_
          refine x_aload_n 96 C dX6_isUnderSecureOne_95 rfl rfl ?_
          refine x_getO 99 500 C fr_X6_40 dX6_isUnderSecureOne_96 rfl rfl rfl rfl (by assumption) (by assumption) ?_
          refine x_getIv 102 600 C fr_X6_164 dX6_isUnderSecureOne_99 rfl rfl rfl rfl (by assumption) (by first | assumption | rfl) ?_
          refine x_icmp_ne 105 142 C dX6_isUnderSecureOne_102 rfl (by decide) (by first | exact hRw _ _ | assumption | exact ⟨by omega, by omega⟩ | exact hw.1 _ _ | omega) (by first | exact hRw _ _ | assumption | exact ⟨by omega, by omega⟩ | exact hw.1 _ _ | omega) (fun h102 => ?_) (fun h102 => ?_)
          · skip
            refine x_iinc 145 C dX6_isUnderSecureOne_142 rfl rfl rfl rfl ?_
            refine x_goto 14 C dX6_isUnderSecureOne_145 (by decide) ?_
            refine x_as rfl rfl rfl (x_less ?_ (ih (k + 1) ⟨by omega, by omega, by (rw [show (k + 1).toNat = k.toNat + 1 by omega, rkBr, i3, Bool.false_or]; unfold rkBk; first | (rw [h84]; rfl) | (rw [h84, decide_eq_false h102]; rfl) | (rw [h84, decide_eq_true h102, hse, h111]; rfl) | (rw [h84, decide_eq_true h102, hse, h111, h116]; rfl) | (rw [h84, decide_eq_true h102, hse, h111, h116, h137]; rfl))⟩ (by (try dsimp only); omega))); exact ⟨rfl, rfl, rfl, rfl, trivial⟩
          · skip
            refine x_aload 107 C dX6_isUnderSecureOne_105 rfl rfl ?_
            refine x_aload_n 108 C dX6_isUnderSecureOne_107 rfl rfl ?_
            refine x_callV (As := [_]) 111 5 0 0 C vw_X6_92 iw_X2_isSeenAt sw_X2_isSeenAt (c_X2_isSeenAt xk hh) dX6_isUnderSecureOne_108 rfl rfl rfl rfl rfl rfl (by assumption) ⟨Nat.le_of_ble_eq_true rfl, Nat.le_of_ble_eq_true rfl⟩ (Nat.le_of_ble_eq_true rfl) ⟨Nat.le_refl _, Nat.le_refl _⟩ (fun v G' hq => ?_)
            obtain ⟨rfl, hG9⟩ := hq
            replace hG9 := hG9.symm
            subst hG9
            refine x_as rfl rfl rfl ?_
            refine x_if_eqB 114 142 C dX6_isUnderSecureOne_111 rfl (by decide) (fun h111 => ?_) (fun h111 => ?_)
            · skip
              refine x_iinc 145 C dX6_isUnderSecureOne_142 rfl rfl rfl rfl ?_
              refine x_goto 14 C dX6_isUnderSecureOne_145 (by decide) ?_
              refine x_as rfl rfl rfl (x_less ?_ (ih (k + 1) ⟨by omega, by omega, by (rw [show (k + 1).toNat = k.toNat + 1 by omega, rkBr, i3, Bool.false_or]; unfold rkBk; first | (rw [h84]; rfl) | (rw [h84, decide_eq_false h102]; rfl) | (rw [h84, decide_eq_true h102, hse, h111]; rfl) | (rw [h84, decide_eq_true h102, hse, h111, h116]; rfl) | (rw [h84, decide_eq_true h102, hse, h111, h116, h137]; rfl))⟩ (by (try dsimp only); omega))); exact ⟨rfl, rfl, rfl, rfl, trivial⟩
            · skip
              refine x_iload 116 C dX6_isUnderSecureOne_114 rfl rfl ?_
              refine x_if_eqB 119 142 C dX6_isUnderSecureOne_116 rfl (by decide) (fun h116 => ?_) (fun h116 => ?_)
              · skip
                refine x_iinc 145 C dX6_isUnderSecureOne_142 rfl rfl rfl rfl ?_
                refine x_goto 14 C dX6_isUnderSecureOne_145 (by decide) ?_
                refine x_as rfl rfl rfl (x_less ?_ (ih (k + 1) ⟨by omega, by omega, by (rw [show (k + 1).toNat = k.toNat + 1 by omega, rkBr, i3, Bool.false_or]; unfold rkBk; first | (rw [h84]; rfl) | (rw [h84, decide_eq_false h102]; rfl) | (rw [h84, decide_eq_true h102, hse, h111]; rfl) | (rw [h84, decide_eq_true h102, hse, h111, h116]; rfl) | (rw [h84, decide_eq_true h102, hse, h111, h116, h137]; rfl))⟩ (by (try dsimp only); omega))); exact ⟨rfl, rfl, rfl, rfl, trivial⟩
              · skip
                refine x_aload_n 120 C dX6_isUnderSecureOne_119 rfl rfl ?_
                refine x_getO 123 500 C fr_X6_40 dX6_isUnderSecureOne_120 rfl rfl rfl rfl (by assumption) (by assumption) ?_
                refine x_getIv 126 603 C fr_X6_44 dX6_isUnderSecureOne_123 rfl rfl rfl rfl (by assumption) (by first | assumption | rfl) ?_
                refine x_aload 128 C dX6_isUnderSecureOne_126 rfl rfl ?_
                refine x_getO 131 500 C fr_X6_40 dX6_isUnderSecureOne_128 rfl rfl rfl rfl (by assumption) (by assumption) ?_
                refine x_getIv 134 603 C fr_X6_44 dX6_isUnderSecureOne_131 rfl rfl rfl rfl (by assumption) (by first | assumption | rfl) ?_
                refine x_callS (As := [_, _]) 137 0 0 C vw_X6_88 tw_X11_beginsWith (c_X11_beginsWith hw0 uk2) dX6_isUnderSecureOne_134 rfl rfl rfl ⟨Nat.le_of_ble_eq_true rfl, Nat.le_of_ble_eq_true rfl⟩ (Nat.le_of_ble_eq_true rfl) ⟨Nat.le_refl _, Nat.le_refl _⟩ (fun v G' hq => ?_)
                obtain ⟨rfl, hG9⟩ := hq
                replace hG9 := hG9.symm
                subst hG9
                refine x_as rfl rfl rfl ?_
                refine x_if_eqB 140 142 C dX6_isUnderSecureOne_137 rfl (by decide) (fun h137 => ?_) (fun h137 => ?_)
                · skip
                  refine x_iinc 145 C dX6_isUnderSecureOne_142 rfl rfl rfl rfl ?_
                  refine x_goto 14 C dX6_isUnderSecureOne_145 (by decide) ?_
                  refine x_as rfl rfl rfl (x_less ?_ (ih (k + 1) ⟨by omega, by omega, by (rw [show (k + 1).toNat = k.toNat + 1 by omega, rkBr, i3, Bool.false_or]; unfold rkBk; first | (rw [h84]; rfl) | (rw [h84, decide_eq_false h102]; rfl) | (rw [h84, decide_eq_true h102, hse, h111]; rfl) | (rw [h84, decide_eq_true h102, hse, h111, h116]; rfl) | (rw [h84, decide_eq_true h102, hse, h111, h116, h137]; rfl))⟩ (by (try dsimp only); omega))); exact ⟨rfl, rfl, rfl, rfl, trivial⟩
                · skip
                  refine x_iconst 141 C dX6_isUnderSecureOne_140 rfl ?_
                  exact x_iret C dX6_isUnderSecureOne_141 rfl ⟨vi (by (have hk1 : rkBr R n0 w0 ho0 q1 (k.toNat + 1) = true := (by (rw [rkBr, i3, Bool.false_or]; unfold rkBk; rw [h84, decide_eq_true h102, hse, h111, h116, h137]; rfl))); rw [decide_eq_true h7, rkBr_mono hk1 (R 34 0).toNat (by omega)]; rfl), rfl⟩
      · skip
        refine x_aload 40 C dX6_isUnderSecureOne_38 rfl rfl ?_
        refine x_getO 43 501 C fr_X6_70 dX6_isUnderSecureOne_40 rfl rfl rfl rfl (by assumption) (by assumption) ?_
        refine x_aload_n 44 C dX6_isUnderSecureOne_43 rfl rfl ?_
        refine x_getO 47 501 C fr_X6_70 dX6_isUnderSecureOne_44 rfl rfl rfl rfl (by assumption) (by assumption) ?_
        refine x_callV (As := [_]) 50 8 0 0 C vw_X6_81 iw_X5_isIn sw_X5_isIn (c_X5_isIn hW uk1 ho2) dX6_isUnderSecureOne_47 rfl rfl rfl rfl rfl rfl (by assumption) ⟨Nat.le_of_ble_eq_true rfl, Nat.le_of_ble_eq_true rfl⟩ (Nat.le_of_ble_eq_true rfl) ⟨Nat.le_refl _, Nat.le_refl _⟩ (fun v G' hq => ?_)
        obtain ⟨rfl, hG9⟩ := hq
        replace hG9 := hG9.symm
        subst hG9
        refine x_as rfl rfl rfl ?_
        refine x_if_neB 53 68 C dX6_isUnderSecureOne_50 rfl (by decide) (fun h50 => ?_) (fun h50 => ?_)
        · skip
          refine x_iconst 69 C dX6_isUnderSecureOne_68 rfl ?_
          refine x_goto 73 C dX6_isUnderSecureOne_69 (by decide) ?_
          exact hJ73 _ (by first | (rw [h50]; rfl) | (rw [h50, h65]; rfl))
        · skip
          refine x_aload_n 54 C dX6_isUnderSecureOne_53 rfl rfl ?_
          refine x_getO 57 501 C fr_X6_70 dX6_isUnderSecureOne_54 rfl rfl rfl rfl (by assumption) (by assumption) ?_
          refine x_aload 59 C dX6_isUnderSecureOne_57 rfl rfl ?_
          refine x_getO 62 501 C fr_X6_70 dX6_isUnderSecureOne_59 rfl rfl rfl rfl (by assumption) (by assumption) ?_
          refine x_callV (As := [_]) 65 8 0 0 C vw_X6_81 iw_X5_isIn sw_X5_isIn (c_X5_isIn hW ho2 uk1) dX6_isUnderSecureOne_62 rfl rfl rfl rfl rfl rfl (by assumption) ⟨Nat.le_of_ble_eq_true rfl, Nat.le_of_ble_eq_true rfl⟩ (Nat.le_of_ble_eq_true rfl) ⟨Nat.le_refl _, Nat.le_refl _⟩ (fun v G' hq => ?_)
          obtain ⟨rfl, hG9⟩ := hq
          replace hG9 := hG9.symm
          subst hG9
          refine x_as rfl rfl rfl ?_
          refine x_if_eqB 68 72 C dX6_isUnderSecureOne_65 rfl (by decide) (fun h65 => ?_) (fun h65 => ?_)
          · skip
            refine x_iconst 73 C dX6_isUnderSecureOne_72 rfl ?_
            exact hJ73 _ (by first | (rw [h50]; rfl) | (rw [h50, h65]; rfl))
          · skip
            refine x_iconst 69 C dX6_isUnderSecureOne_68 rfl ?_
            refine x_goto 73 C dX6_isUnderSecureOne_69 (by decide) ?_
            exact hJ73 _ (by first | (rw [h50]; rfl) | (rw [h50, h65]; rfl))
  · skip
    refine x_iconst 11 C dX6_isUnderSecureOne_10 rfl ?_
    exact x_iret C dX6_isUnderSecureOne_11 rfl ⟨vi (by rw [decide_eq_false h7]; rfl), rfl⟩
