/-! rows laid by program (wip/tools/gen.py) -/
set_option maxHeartbeats 1000000 in
set_option maxRecDepth 100000 in
theorem c_X12_sends {E : EV} {l : Launch} {G : GT} {R : RT} {o : Nat} {a w q : Int} (hM : RM G o) (hH : RH R) (hC : RC R) (hA : RA R) (hD : RAd R) (h1 : 0 ≤ a ∧ a < R 7 0) (h3 : InR w) (h4 : 0 ≤ q ∧ q < 240) (h5 : R 32 q.toNat = 0) (h6 : 0 ≤ R 1 0 ∧ R 1 0 ≤ 2000000000) : MT E l yX12_sends cX12_sends 6 none 3 70 0 0 [.ref o, .int (i32 a), .int (i32 w), .int (i32 q)] (wR G R) (pD none (wR G (rSends R a w q))) := by
  refine mt_of (own := RX12) (L := [some (.ref o), some (.int (i32 a)), some (.int (i32 w)), some (.int (i32 q)), none, none]) (by decide +kernel) rfl (Nat.le_of_ble_eq_true rfl) (List.forall_mem_cons.mpr ⟨rfl, (List.forall_mem_cons.mpr ⟨rfl, (List.forall_mem_cons.mpr ⟨rfl, (List.forall_mem_cons.mpr ⟨rfl, (fun _ h => absurd h List.not_mem_nil)⟩)⟩)⟩)⟩) rfl ?_
  intro p e s m args below meth c C hin
  refine x_wf (fun hw => ?_)
  have hr0 : ∀ k j, InR (R k j) := hw.2.2.1
  have hz0 : ∀ k j, mZ k = true → R k j = 0 ∨ R k j = 1 := hw.2.2.2.2.1
  have hh := hA.1
  have hh2 := hA.2
  have hc1 := hC.1
  refine x_iconst 1 C dX12_sends_0 rfl ?_
  refine x_istore 3 C dX12_sends_1 rfl rfl rfl ?_
  refine x_loop (α := Int × RT × Option Value) (fun ⟨n, T, x5⟩ => (n + 1).toNat) (fun ⟨n, T, x5⟩ => -1 ≤ n ∧ n ≤ 3 ∧ T = rSndL R a w q (3 - n).toNat ∧ rSI R T q (rNh R n)) (fun ⟨n, T, x5⟩ => wR G T) (fun ⟨n, T, x5⟩ => [some (.ref o), some (.int (i32 a)), some (.int (i32 w)), some (.int (i32 q)), some (.int (i32 n)), x5]) (fun _ => []) (3, R, none) ⟨by decide, by decide, rfl, rSndL_I (a := a) (w := w) h5 h6.1 0 (by decide)⟩ rfl rfl rfl ?_
  intro aa hI ih
  obtain ⟨n, T, x5⟩ := aa
  (try dsimp only at hI); (try dsimp only at ih); (try dsimp only)
  obtain ⟨i1, i2, i3, i4⟩ := hI
  have ihO := ih
  refine x_iload 5 C dX12_sends_3 rfl rfl ?_
  refine x_if_lt 8 124 C dX12_sends_5 rfl (by decide) (by first | exact hr1 _ _ | exact hw.2.2.1 _ _ | exact hr0 _ _ | assumption | omega | exact ⟨by omega, by omega⟩) (fun h5 => ?_) (fun h5 => ?_)
  · skip
    exact x_ret C dX12_sends_124 ⟨rfl, congrArg (wR G) (by rw [i3, show (3 - n).toNat = 4 by omega]; rfl)⟩
  · skip
    refine x_iconst 9 C dX12_sends_8 rfl ?_
    refine x_istore 11 C dX12_sends_9 rfl rfl rfl ?_
    refine x_loop (α := Int × RT) (fun ⟨k, S⟩ => (R 34 0 - k).toNat) (fun ⟨k, S⟩ => 0 ≤ k ∧ k ≤ R 34 0 ∧ S = rSndK a w q n k.toNat T ∧ rSI R S q (rNh R n + rNg R n k.toNat)) (fun ⟨k, S⟩ => wR G S) (fun ⟨k, S⟩ => [some (.ref o), some (.int (i32 a)), some (.int (i32 w)), some (.int (i32 q)), some (.int (i32 n)), some (.int (i32 k))]) (fun _ => []) (0, T) ⟨by decide, by omega, rfl, rSI_mono i4 (by show rNh R n ≤ rNh R n + 0; omega)⟩ rfl rfl rfl ?_
    intro aa hI ih
    obtain ⟨k, S⟩ := aa
    (try dsimp only at hI); (try dsimp only at ih); (try dsimp only)
    obtain ⟨j1, j2, j3, j4⟩ := hI
    have e34 : S 34 0 = R 34 0 := congrFun (j4.1 34 (by decide) (by decide) (by decide) (by decide)) 0
    have e39 : S 39 k.toNat = R 39 k.toNat := congrFun (j4.1 39 (by decide) (by decide) (by decide) (by decide)) _
    have e7 : S 7 0 = R 7 0 := congrFun (j4.1 7 (by decide) (by decide) (by decide) (by decide)) 0
    have ek : ((k.toNat : Nat) : Int) = k := by omega
    refine x_wf (fun hw => ?_)
    have hr1 : ∀ k j, InR (S k j) := hw.2.2.1
    refine x_iload 13 C dX12_sends_11 rfl rfl ?_
    refine x_aload_n 14 C dX12_sends_13 rfl rfl ?_
    refine x_mget 17 34 C fr_X12_260 dX12_sends_14 rfl rfl hM ?_
    (try simp only [u2r, false_and, and_false, true_and, and_true, ↓reduceIte, Nat.reduceEqDiff])
    refine x_icmp_ge 20 118 C dX12_sends_17 rfl (by decide) (by first | exact hr1 _ _ | exact hw.2.2.1 _ _ | exact hr0 _ _ | assumption | omega | exact ⟨by omega, by omega⟩) (by first | exact hr1 _ _ | exact hw.2.2.1 _ _ | exact hr0 _ _ | assumption | omega | exact ⟨by omega, by omega⟩) (fun h17 => ?_) (fun h17 => ?_)
    · skip
      refine x_iinc 121 C dX12_sends_118 rfl rfl rfl rfl ?_
      refine x_goto 3 C dX12_sends_121 (by decide) ?_
      exact ihO (n + -1, S, some (.int (i32 k))) ⟨by dsimp only; omega, by dsimp only; omega, by dsimp only; rw [j3, show (3 - (n + -1)).toNat = (3 - n).toNat + 1 by omega, rSndL, ← i3, show 3 - ((3 - n).toNat : Int) = n by omega, show k = R 34 0 by omega], by dsimp only; rw [← rNh_end ⟨by omega, by omega⟩, show (R 34 0).toNat = k.toNat by omega]; exact j4⟩ (by dsimp only; omega)
    · skip
      have hmi := rMany_in (S 39 k.toNat)
      have hk := rNh_k (R := R) (n := n) (k := k) (by omega) (by omega)
      have hg0 := (rNg_all (R := R) k.toNat)
      obtain ⟨c1, c2, c3, c4⟩ := (j4.C hC).2 k.toNat (by omega)
      refine x_aload_n 21 C dX12_sends_20 rfl rfl ?_
      refine x_mrow 24 39 C fr_X12_104 dX12_sends_21 rfl rfl hM ?_
      refine x_iload 26 C dX12_sends_24 rfl rfl ?_
      refine x_mldI 27 39 C dX12_sends_26 rfl rfl hM (by first | exact hIx | exact ⟨by omega, Int.lt_of_lt_of_le (b := 12) (by omega) (by decide)⟩) ?_
      (try simp only [u2r, false_and, and_false, true_and, and_true, ↓reduceIte, Nat.reduceEqDiff])
      refine x_Sr (As := [_]) 30 C vw_X12_257 tw_X12_many (c_X12_many (hr1 _ _)) dX12_sends_27 rfl rfl rfl ⟨Nat.le_of_ble_eq_true rfl, Nat.le_of_ble_eq_true rfl⟩ (Nat.le_of_ble_eq_true rfl) ?_
      refine x_iload 32 C dX12_sends_30 rfl rfl ?_
      refine x_icmp_ne 35 112 C dX12_sends_32 rfl (by decide) (by first | exact hr1 _ _ | exact hw.2.2.1 _ _ | exact hr0 _ _ | assumption | omega | exact ⟨by omega, by omega⟩) (by first | exact hr1 _ _ | exact hw.2.2.1 _ _ | exact hr0 _ _ | assumption | omega | exact ⟨by omega, by omega⟩) (fun h32 => ?_) (fun h32 => ?_)
      · skip
        refine x_iinc 115 C dX12_sends_112 rfl rfl rfl rfl ?_
        refine x_goto 11 C dX12_sends_115 (by decide) ?_
        have e1 := show (k + 1).toNat = k.toNat + 1 by omega
        first | (have hA1 : rMany (S 39 k.toNat) = n ∧ rGoes S k a w = true := ⟨by omega, h43⟩; refine x_as (congrArg (wR G) (show rSnd1 S k q = _ by rfl)) rfl rfl (ih (k + 1, rSnd1 S k q) ⟨by dsimp only; omega, by dsimp only; omega, by dsimp only; rw [e1, rSndK, ← j3, ek, if_pos hA1], by dsimp only; rw [e1, (rNg_step).2 (by rw [← e39]; exact hA1.1), ← Int.add_assoc]; exact rSI_1 k j4⟩ (by dsimp only; omega))) | (have hA1 : ¬ (rMany (S 39 k.toNat) = n ∧ rGoes S k a w = true) := (by first | (rw [h43]; simp; done) | (intro z; omega)); exact ih (k + 1, S) ⟨by dsimp only; omega, by dsimp only; omega, by dsimp only; rw [e1, rSndK, ← j3, ek, if_neg hA1], by dsimp only; rw [e1]; exact rSI_mono j4 (by have := (rNg_step (R := R) (len := n) (n := k.toNat)).1; omega)⟩ (by dsimp only; omega))
      · skip
        refine x_aload_n 36 C dX12_sends_35 rfl rfl ?_
        refine x_iload 38 C dX12_sends_36 rfl rfl ?_
        refine x_iload_n 39 C dX12_sends_38 rfl rfl ?_
        refine x_iload_n 40 C dX12_sends_39 rfl rfl ?_
        refine x_Vr (As := [_, _, _]) 43 C vw_X12_309 iw_X12_goes sw_X12_goes (c_X12_goes (R := S) hM (j4.Fs.H hH) (j4.C hC) (j4.Fs.A hA) (j4.Fs.Ad hD) (by omega) (by omega) (by assumption)) dX12_sends_40 rfl rfl rfl rfl rfl rfl hM.1 ⟨Nat.le_of_ble_eq_true rfl, Nat.le_of_ble_eq_true rfl⟩ (Nat.le_of_ble_eq_true rfl) ?_
        refine x_if_eqB 46 112 C dX12_sends_43 rfl (by decide) (fun h43 => ?_) (fun h43 => ?_)
        · skip
          refine x_iinc 115 C dX12_sends_112 rfl rfl rfl rfl ?_
          refine x_goto 11 C dX12_sends_115 (by decide) ?_
          have e1 := show (k + 1).toNat = k.toNat + 1 by omega
          first | (have hA1 : rMany (S 39 k.toNat) = n ∧ rGoes S k a w = true := ⟨by omega, h43⟩; refine x_as (congrArg (wR G) (show rSnd1 S k q = _ by rfl)) rfl rfl (ih (k + 1, rSnd1 S k q) ⟨by dsimp only; omega, by dsimp only; omega, by dsimp only; rw [e1, rSndK, ← j3, ek, if_pos hA1], by dsimp only; rw [e1, (rNg_step).2 (by rw [← e39]; exact hA1.1), ← Int.add_assoc]; exact rSI_1 k j4⟩ (by dsimp only; omega))) | (have hA1 : ¬ (rMany (S 39 k.toNat) = n ∧ rGoes S k a w = true) := (by first | (rw [h43]; simp; done) | (intro z; omega)); exact ih (k + 1, S) ⟨by dsimp only; omega, by dsimp only; omega, by dsimp only; rw [e1, rSndK, ← j3, ek, if_neg hA1], by dsimp only; rw [e1]; exact rSI_mono j4 (by have := (rNg_step (R := R) (len := n) (n := k.toNat)).1; omega)⟩ (by dsimp only; omega))
        · skip
          have hks := (rNg_step (R := R) (len := n) (n := k.toNat)).2 (by rw [← e39]; omega)
          have hs32 := j4.2.1
          have hs1 := j4.2.2
          refine x_aload_n 47 C dX12_sends_46 rfl rfl ?_
          refine x_mrow 50 33 C fr_X12_89 dX12_sends_47 rfl rfl hM ?_
          refine x_bipush 52 C dX12_sends_50 rfl (by decide) ?_
          refine x_iload_n 53 C dX12_sends_52 rfl rfl ?_
          refine x_imul 54 C dX12_sends_53 rfl ?_
          refine x_aload_n 55 C dX12_sends_54 rfl rfl ?_
          refine x_mrow 58 32 C fr_X12_86 dX12_sends_55 rfl rfl hM ?_
          refine x_iload_n 59 C dX12_sends_58 rfl rfl ?_
          refine x_mldI 60 32 C dX12_sends_59 rfl rfl hM (by first | exact hIx | exact ⟨by omega, Int.lt_of_lt_of_le (b := 240) (by omega) (by decide)⟩) ?_
          (try simp only [u2r, false_and, and_false, true_and, and_true, ↓reduceIte, Nat.reduceEqDiff])
          refine x_iadd 61 C dX12_sends_60 rfl ?_
          refine x_sipush 64 C dX12_sends_61 rfl (by decide) ?_
          refine x_aload_n 65 C dX12_sends_64 rfl rfl ?_
          refine x_mrow 68 35 C fr_X12_92 dX12_sends_65 rfl rfl hM ?_
          refine x_iload 70 C dX12_sends_68 rfl rfl ?_
          refine x_mldI 71 35 C dX12_sends_70 rfl rfl hM (by first | exact hIx | exact ⟨by omega, Int.lt_of_lt_of_le (b := 12) (by omega) (by decide)⟩) ?_
          (try simp only [u2r, false_and, and_false, true_and, and_true, ↓reduceIte, Nat.reduceEqDiff])
          refine x_imul 72 C dX12_sends_71 rfl ?_
          refine x_aload_n 73 C dX12_sends_72 rfl rfl ?_
          refine x_mrow 76 36 C fr_X12_95 dX12_sends_73 rfl rfl hM ?_
          refine x_iload 78 C dX12_sends_76 rfl rfl ?_
          refine x_mldI 79 36 C dX12_sends_78 rfl rfl hM (by first | exact hIx | exact ⟨by omega, Int.lt_of_lt_of_le (b := 12) (by omega) (by decide)⟩) ?_
          (try simp only [u2r, false_and, and_false, true_and, and_true, ↓reduceIte, Nat.reduceEqDiff])
          refine x_iadd 80 C dX12_sends_79 rfl ?_
          refine x_mstI 81 33 C dX12_sends_80 rfl rfl hM ⟨by omega, Int.lt_of_lt_of_le (b := 2880) (by omega) (by decide)⟩ (by first | exact hr1 _ _ | exact hw.2.2.1 _ _ | exact hr0 _ _ | assumption | omega | exact ⟨by omega, by omega⟩) ?_
          refine x_wf (fun hw => ?_)
          refine x_aload_n 82 C dX12_sends_81 rfl rfl ?_
          refine x_mrow 85 32 C fr_X12_86 dX12_sends_82 rfl rfl hM ?_
          refine x_iload_n 86 C dX12_sends_85 rfl rfl ?_
          refine x_dup2 87 C dX12_sends_86 rfl rfl rfl ?_
          refine x_mldI 88 32 C dX12_sends_87 rfl rfl hM (by first | exact hIx | exact ⟨by omega, Int.lt_of_lt_of_le (b := 240) (by omega) (by decide)⟩) ?_
          (try simp only [u2r, false_and, and_false, true_and, and_true, ↓reduceIte, Nat.reduceEqDiff])
          refine x_iconst 89 C dX12_sends_88 rfl ?_
          refine x_iadd 90 C dX12_sends_89 rfl ?_
          refine x_mstI 91 32 C dX12_sends_90 rfl rfl hM ⟨by omega, Int.lt_of_lt_of_le (b := 240) (by omega) (by decide)⟩ (by first | exact hr1 _ _ | exact hw.2.2.1 _ _ | exact hr0 _ _ | assumption | omega | exact ⟨by omega, by omega⟩) ?_
          refine x_wf (fun hw => ?_)
          refine x_aload_n 92 C dX12_sends_91 rfl rfl ?_
          refine x_mrow 95 43 C fr_X12_116 dX12_sends_92 rfl rfl hM ?_
          refine x_iload 97 C dX12_sends_95 rfl rfl ?_
          refine x_aload_n 98 C dX12_sends_97 rfl rfl ?_
          refine x_mget 101 1 C fr_X12_254 dX12_sends_98 rfl rfl hM ?_
          (try simp only [u2r, false_and, and_false, true_and, and_true, ↓reduceIte, Nat.reduceEqDiff])
          refine x_mstI 102 43 C dX12_sends_101 rfl rfl hM ⟨by omega, Int.lt_of_lt_of_le (b := 12) (by omega) (by decide)⟩ (by first | exact hr1 _ _ | exact hw.2.2.1 _ _ | exact hr0 _ _ | assumption | omega | exact ⟨by omega, by omega⟩) ?_
          refine x_wf (fun hw => ?_)
          refine x_aload_n 103 C dX12_sends_102 rfl rfl ?_
          refine x_dup 104 C dX12_sends_103 rfl rfl ?_
          refine x_mget 107 1 C fr_X12_254 dX12_sends_104 rfl rfl hM ?_
          (try simp only [u2r, false_and, and_false, true_and, and_true, ↓reduceIte, Nat.reduceEqDiff])
          refine x_iconst 108 C dX12_sends_107 rfl ?_
          refine x_iadd 109 C dX12_sends_108 rfl ?_
          refine x_mput 112 1 C fw_X12_254 dX12_sends_109 rfl rfl rfl hM (by first | exact hr1 _ _ | exact hw.2.2.1 _ _ | exact hr0 _ _ | assumption | omega | exact ⟨by omega, by omega⟩) (fun z => absurd z (by decide)) ?_
          refine x_wf (fun hw => ?_)
          refine x_iinc 115 C dX12_sends_112 rfl rfl rfl rfl ?_
          refine x_goto 11 C dX12_sends_115 (by decide) ?_
          have e1 := show (k + 1).toNat = k.toNat + 1 by omega
          first | (have hA1 : rMany (S 39 k.toNat) = n ∧ rGoes S k a w = true := ⟨by omega, h43⟩; refine x_as (congrArg (wR G) (show rSnd1 S k q = _ by rfl)) rfl rfl (ih (k + 1, rSnd1 S k q) ⟨by dsimp only; omega, by dsimp only; omega, by dsimp only; rw [e1, rSndK, ← j3, ek, if_pos hA1], by dsimp only; rw [e1, (rNg_step).2 (by rw [← e39]; exact hA1.1), ← Int.add_assoc]; exact rSI_1 k j4⟩ (by dsimp only; omega))) | (have hA1 : ¬ (rMany (S 39 k.toNat) = n ∧ rGoes S k a w = true) := (by first | (rw [h43]; simp; done) | (intro z; omega)); exact ih (k + 1, S) ⟨by dsimp only; omega, by dsimp only; omega, by dsimp only; rw [e1, rSndK, ← j3, ek, if_neg hA1], by dsimp only; rw [e1]; exact rSI_mono j4 (by have := (rNg_step (R := R) (len := n) (n := k.toNat)).1; omega)⟩ (by dsimp only; omega))
