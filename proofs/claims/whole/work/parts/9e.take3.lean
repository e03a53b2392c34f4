/-! a hop: it is made, cookies are sent and set, it ends -/
section TAKE3
variable {ks ls L0 : List Nat} {G0 G G1 G4 G' : GT} {B : Nat → Nat} {R T0 S : RT} {rq ch hp ar : Nat} {cr m q n : Int}
theorem rSndK_1 {a w len : Int} : ∀ (k : Nat) (T : RT), T 1 0 ≤ rSndK a w q len k T 1 0 := by
  intro k
  induction k with
  | zero => intro T; exact Int.le_refl _
  | succ k ih =>
    intro T
    have := ih T
    rw [rSndK]
    split
    · unfold rSnd1
      rw [u2_s]
      omega
    · exact this
theorem rSndL_1 {a w : Int} : ∀ k : Nat, R 1 0 ≤ rSndL R a w q k 1 0 := by
  intro k
  induction k with
  | zero => exact Int.le_refl _
  | succ k ih =>
    rw [rSndL]
    exact Int.le_trans ih (rSndK_1 _ _)
theorem rSends_1 {a w : Int} : R 1 0 ≤ rSends R a w q 1 0 := rSndL_1 4
theorem rD4_x (hX : RX T0 n) {f : Nat} (h : f < 44 ∨ 60 < f) (h1 : f ≠ 1) (h2 : f ≠ 68) (h3 : f ≠ 69) : rD4 T0 m f = T0 f := rD4_out hX.2.1 hX.2.2.2.1.1 h h1 h2 h3
/-- cookies were sent -/
theorem rkT_sent (h : rkT G0 G B (rD4 T0 m) rq ch hp ar L0 cr m q) (hX : RX T0 n) (hn : n ≤ 239) (h32 : T0 32 q.toNat = 0) (hf : rkFr [505, 901, 708] [] G G') (hC : rkC G' B (rSends (rD4 T0 m) m (rWhere T0 m) q)) (hsn : rkSn G' hp ar (rSends (rD4 T0 m) m (rWhere T0 m) q) q) (hJ : rkJ (rSends (rD4 T0 m) m (rWhere T0 m) q)) (hso : rkSo G G' hp ar) : rkT G0 G' B (rSends (rD4 T0 m) m (rWhere T0 m) q) rq ch hp ar L0 cr m q := by
  obtain ⟨g1, g2, g3, g4, g5, g6, g7⟩ := rD4_I (a := m) hX
  have e32 : rD4 T0 m 32 = T0 32 := rD4_x hX (by decide) (by decide) (by decide) (by decide)
  have s := rSends_I (R := rD4 T0 m) (a := m) (w := rWhere T0 m) (q := q) (by rw [e32]; exact h32) (by have := hX.2.2.2.2.1; omega) (by have := g1.1; omega)
  exact rkT_send h hf hso hsn (rkZ_jar h.1 hf (fun k z => by simp at z; omega) (fun x z => by cases z) (fun f a b => s.1 f a (by omega) (by omega) (by omega)) rSends_1 hC hJ) s.1
/-- the answer's cookie was set -/
theorem rkT_took (h : rkT G0 G B R rq ch hp ar L0 cr m q) (hm : 0 ≤ m ∧ m < R 7 0) (h10 : R 34 0 ≤ 10) (hf : rkFr [505, 901] [B 8] G G') {w : Int} (hC : rkC G' B (rSets R m w)) (hJ : rkJ (rSets R m w)) : rkT G0 G' B (rSets R m w) rq ch hp ar L0 cr m q := by
  obtain ⟨iH, iA, iAd, iHl, iP, iS, iR, iU⟩ := h.1.1.2.2.2.2
  obtain ⟨t1, t2, t3, t4, t5⟩ := rSets_I (a := m) (w := w) iA iAd iS h.1.2.2.1.1 hm h10
  refine rkT_step h hf (fun k z => by simp at z; omega) (fun x z => by simp at z; omega) ?_ (fun f a b => t1 f (by omega) a)
  exact rkZ_jar h.1 hf (fun k z => by simp at z; omega) (fun x z => by simp at z; exact z) (fun f a b => t1 f (by omega) a) t4 hC hJ
/-- a hop is made -/
theorem rkT_make (hZ : rkZ G B R) (hr : rkRq G B rq (R 61 0) (R 62 0) cr (R 65 0) (R 66 0) (R 67 0) (R 68 0)) (hch : gL G ch = L0 ∧ gK G ch = 20 ∧ gP G 1304 rq = some ch ∧ ∀ i, i < 10 → ch ≠ B i) (hm : 0 ≤ m ∧ m < R 7 0) (h66 : 0 ≤ R 66 0 ∧ R 66 0 ≤ 2) (h30 : 0 ≤ R 30 (R 28 0).toNat ∧ R 30 (R 28 0).toNat ≤ 6) (hp0 : gK G hp = 0) (har : gK G1 ar = 0) (hG1 : G1 = nO (sI G 1307 rq (rAfar R m)) hp 7) (hG4 : G4 = sL (rkNewHp G1 hp (rkAt G1 (B 2) m) (R 66 0) (R 67 0) (rAfar R m) (bI (decide (R 62 0 = 2))) (rkPm (rWhere R m)) (rRef R m) ar) ch (L0 ++ [hp])) : rkT G G4 B (rD2 (rRec R m q) m) rq ch hp ar L0 cr m q := by
  obtain ⟨c1, c2, c3, c4⟩ := hch
  have hF1 : rkFr [1307] [] G G1 := by rw [hG1]; exact fr_nO hp0 (by decide) (fr_sI (by decide) (by decide) fr_rfl)
  have ar0 : gK G ar = 0 := fr_q hF1 har
  have k1 : gK G1 hp = 7 := by rw [hG1]; exact nO_q
  have hne : hp ≠ ar := fun z => by rw [← z, k1] at har; cases har
  have krq : gK G rq ≠ 0 := by rw [hr.1]; decide
  have kch : gK G ch ≠ 0 := by rw [c2]; decide
  have nrq : rq ≠ hp := fun z => krq (by rw [z]; exact hp0)
  have hF4 : rkFr [1307] [ch] G G4 := by
    rw [hG4]
    exact fr_sL List.mem_cons_self (fr_sPq hp0 (by decide) (fr_nA ar0 (fr_sIq hp0 (fr_sIq hp0 (fr_sIq hp0 (fr_sIq hp0 (fr_sIq hp0 (fr_sIq hp0 (fr_sPq hp0 (by decide) (fr_wide hF1 (fun k z => z) (fun k z => by cases z)))))))))))
  obtain ⟨iH, iA, iAd, iHl, iP, iS, iR, iU⟩ := hZ.1.2.2.2.2
  have B2 : ∀ x, x ≠ ch → gL G4 x = gL G x := fun x hx => by
    rw [hG4, sL_n hx, hG1]; rfl
  have e2 : gL G4 (B 2) = gL G (B 2) := B2 _ (fun z => c4 2 (by decide) z.symm)
  have e3 : gL G4 (B 3) = gL G (B 3) := B2 _ (fun z => c4 3 (by decide) z.symm)
  have e21 : rkAt G1 (B 2) m = rkAt G4 (B 2) m := by rw [rkAt_same e2, rkAt_same (show gL G1 (B 2) = gL G (B 2) by rw [hG1]; rfl)]
  have rb : ∀ f : Nat, f ≠ 30 → f ≠ 31 → f ≠ 32 → f ≠ 68 → f ≠ 69 → rD2 (rRec R m q) m f = R f := fun f a b c d e => rkD2_o f ⟨a, b, c, d, e⟩
  have Fb : Fs R (rD2 (rRec R m q) m) := fun f a b => rb f (by omega) (by omega) (by omega) (by omega) (by omega)
  have e61 := congrFun (rb 61 (by decide) (by decide) (by decide) (by decide) (by decide)) 0
  have e62 := congrFun (rb 62 (by decide) (by decide) (by decide) (by decide) (by decide)) 0
  have e65 := congrFun (rb 65 (by decide) (by decide) (by decide) (by decide) (by decide)) 0
  have e66 := congrFun (rb 66 (by decide) (by decide) (by decide) (by decide) (by decide)) 0
  have e67 := congrFun (rb 67 (by decide) (by decide) (by decide) (by decide) (by decide)) 0
  have e68 : rD2 (rRec R m q) m 68 0 = rAfar R m := by
    have F1 : Fs R (rRec R m q) := rRec_Fs
    unfold rD2
    rw [u2_k (by decide), u2_s]
    unfold rAfar rFrom
    rw [F1.place, F1.place, rRec_out (by decide), rRec_out (by decide), rRec_out (by decide)]
  have hZ4 : rkZ G4 B (rD2 (rRec R m q) m) := rkZ_R (rkZ_fr hZ hF4 (by decide) (fun x z => by
    rw [List.mem_singleton.mp z]
    exact ⟨by rw [c2]; decide, c4 1 (by decide), c4 2 (by decide), c4 3 (by decide), c4 5 (by decide), c4 8 (by decide), c4 9 (by decide)⟩)) (fun f hf => rb f (by omega) (by omega) (by omega) (by omega) (by omega)) (InR_d2 (InR_rec iR ⟨hm.1, by have := iA.2; omega⟩ h66 h30))
  have I4 : ∀ f x : Nat, gI G4 f x = u2 (u2 (u2 (u2 (u2 (u2 (gI G1) 701 hp (R 66 0)) 702 hp (R 67 0)) 703 hp (rAfar R m)) 704 hp (bI (decide (R 62 0 = 2)))) 705 hp (rkPm (rWhere R m))) 706 hp (rRef R m) f x := fun f x => by rw [hG4]; rfl
  have P4 : ∀ f : Nat, gP G4 f hp = u2 (u2 (gP G1) 700 hp (some (rkAt G1 (B 2) m))) 707 hp (some ar) f hp := fun f => by rw [hG4]; rfl
  have K4 : gK G4 hp = 7 := by
    have : gK G4 hp = va_up (gK G1) ar 25 hp := by rw [hG4]; rfl
    rw [this]
    exact (if_neg hne).trans k1
  have Ka : gK G4 ar = 25 := by
    have : gK G4 ar = va_up (gK G1) ar 25 ar := by rw [hG4]; rfl
    rw [this]
    exact if_pos rfl
  have i0 : ∀ f : Nat, f / 100 = 7 → 706 < f → gI G4 f hp = 0 := fun f h h' => by
    rw [I4, u2_k (by omega), u2_k (by omega), u2_k (by omega), u2_k (by omega), u2_k (by omega), u2_k (by omega), hG1]
    exact nO_I0 h
  refine ⟨hZ4, ⟨fr_wide hF4 (by decide) (fun x z => by rw [List.mem_singleton.mp z]; simp), rkOl_fr hF4 (by decide)⟩, ?_, ?_, ⟨⟨?_, Ka, ?_, fun j j0 j1 => ?_⟩, ?_, ?_, i0 711 (by decide) (by decide)⟩, ⟨hp0, ar0⟩, by rw [hG4]; exact sL_s, (hF4.1 ch kch).trans c2, ((hF4.2.1 1304 rq krq (by decide)).2).trans c3, c4⟩
  · obtain ⟨r0, r1, r2, r3, r4, r5, r6, r7⟩ := hr
    have N : ∀ f : Nat, f ≠ 1307 → gI G4 f rq = gI G f rq ∧ gP G4 f rq = gP G f rq := fun f hf => hF4.2.1 f rq krq (by simpa using hf)
    rw [e61, e62, e65, e66, e67, e68]
    refine ⟨(hF4.1 rq krq).trans r0, ?_, (N 1301 (by decide)).1.trans r2, (N 1302 (by decide)).1.trans r3, (N 1303 (by decide)).1.trans r4, (N 1305 (by decide)).1.trans r5, (N 1306 (by decide)).1.trans r6, ?_⟩
    · rw [(N 1300 (by decide)).2, rkAt_same e3]; exact r1
    · have : gI G4 1307 rq = gI G1 1307 rq := by
        rw [I4, u2_k (by decide), u2_k (by decide), u2_k (by decide), u2_k (by decide), u2_k (by decide), u2_k (by decide)]
      rw [this, hG1, nO_I (by decide)]
      exact u2_s
  · rw [e66, e67, e62, e68, Fs_where Fb e61 e62]
    refine ⟨K4, ?_, ?_, ?_, ?_, ?_, ?_⟩
    · rw [P4, u2_k (by decide), u2_s, e21]
    · rw [I4, u2_k (by decide), u2_k (by decide), u2_k (by decide), u2_k (by decide), u2_k (by decide), u2_s]
    · rw [I4, u2_k (by decide), u2_k (by decide), u2_k (by decide), u2_k (by decide), u2_s]
    · rw [I4, u2_k (by decide), u2_k (by decide), u2_k (by decide), u2_s]
    · rw [I4, u2_k (by decide), u2_k (by decide), u2_s]
    · rw [I4, u2_k (by decide), u2_s]
  · rw [P4, u2_s]
  · rw [i0 708 (by decide) (by decide), rkD2_f (by decide) (by decide), rRec_32]
  · rw [rkD2_f (by decide) (by decide), rRec_32] at j1
    omega
  · rw [I4, u2_s, Fs_ref Fb e61]
  · have : rD2 (rRec R m q) m 31 q.toNat = rHopV R m := by
      rw [rkD2_f (by decide) (by decide)]
      unfold rRec
      rw [u2_k (by decide), u2_k (by decide), u2_s]
    rw [this]
    unfold rHopV
    rw [e66, e67, Fs_ref Fb e61]
/-- what holds at the hop's end -/
def rkTe (G0 G : GT) (B : Nat → Nat) (R S : RT) (rq ch hp : Nat) (L0 : List Nat) (q m : Int) : Prop :=
  rkZ G B S ∧ (rkFr rkTk [B 9, B 5, B 8, ch] G0 G ∧ rkOl G0 G) ∧ rkHp G B S q hp ∧ (gL G ch = L0 ++ [hp] ∧ gK G ch = 20 ∧ gP G 1304 rq = some ch) ∧ (gP G 700 hp = some (rkAt G (B 2) m) ∧ gI G 702 hp = R 67 0)
theorem rkT_end (h : rkT G0 G B S rq ch hp ar L0 cr m q) (hm : 0 ≤ m ∧ m < S 7 0) (h32 : 0 ≤ S 32 q.toNat ∧ S 32 q.toNat ≤ 10) (h67 : S 67 0 = R 67 0) : rkTe G0 G B R S rq ch hp L0 q m := by
  obtain ⟨z, f, r, v, ⟨s1, s2, s3, s4⟩, hn, c1, c2, c3, c4⟩ := h
  refine ⟨z, f, ⟨m, _, _, _, _, _, v, hm, ?_, h32, ar, s1⟩, ⟨c1, c2, c3⟩, v.2.1, v.2.2.2.1.trans h67⟩
  rw [s3, s2]
  rfl
/-- the request follows a redirect -/
theorem rkT_follow (h : rkT G0 G B S rq ch hp ar L0 cr m q) (hm : 0 ≤ m ∧ m < S 7 0) (h32 : 0 ≤ S 32 q.toNat ∧ S 32 q.toNat ≤ 10) (h67 : S 67 0 = R 67 0) (hz : S 67 0 = 0 ∨ S 67 0 = 1) (h66 : 0 ≤ S 66 0) (h13 : 0 ≤ S 13 m.toNat) (hG' : G' = rkFw G rq hp (S 62 0 = 1 ∧ rkCr S (S 67 0) m (S 61 0) = true ∧ rSame S (S 12 m.toNat) m = false) (S 13 m.toNat = 2 ∨ (S 13 m.toNat ≤ 1 ∧ S 66 0 = 1))) : rkTe G0 G' B R S rq ch hp L0 q m ∧ rkRq G' B rq (S 61 0) (S 62 0) cr (S 65 0) (rHow S m) (rTnt S m) (S 68 0) ∧ (gI G' 709 hp = gI G 709 hp ∧ gI G' 710 hp = gI G 710 hp ∧ gI G' 711 hp = 1) := by
  obtain ⟨z, ⟨f1, f2⟩, ⟨r0, r1, r2, r3, r4, r5, r6, r7⟩, v, ⟨s1, s2, s3, s4⟩, hn, c1, c2, c3, c4⟩ := h
  obtain ⟨T, hT⟩ : ∃ T : Prop, T = (S 62 0 = 1 ∧ rkCr S (S 67 0) m (S 61 0) = true ∧ rSame S (S 12 m.toNat) m = false) := ⟨_, rfl⟩
  obtain ⟨M, hM⟩ : ∃ M : Prop, M = (S 13 m.toNat = 2 ∨ (S 13 m.toNat ≤ 1 ∧ S 66 0 = 1)) := ⟨_, rfl⟩
  have krq : gK G rq ≠ 0 := by rw [r0]; decide
  have khp : gK G hp ≠ 0 := by rw [v.1]; decide
  have nrq : rq ≠ hp := fun z => by rw [z, v.1] at r0; cases r0
  have hf : rkFr [711, 1306, 1305] [] G G' := by
    rw [hG']
    unfold rkFw
    split
    · refine fr_sI (by decide) (by decide) ?_
      split
      · exact fr_sI (by decide) (by decide) (fr_sI (by decide) (by decide) fr_rfl)
      · exact fr_sI (by decide) (by decide) fr_rfl
    · split
      · exact fr_sI (by decide) (by decide) (fr_sI (by decide) (by decide) fr_rfl)
      · exact fr_sI (by decide) (by decide) fr_rfl
  have i711 : ∀ x, gI G' 711 x = if x = hp then 1 else gI G 711 x := fun x => by
    have e : ∀ X : GT, (X = sI G 711 hp 1 → gI X 711 x = if x = hp then 1 else gI G 711 x) := fun X hX => by
      rw [hX]
      show u2 (gI G) 711 hp 1 711 x = _
      by_cases c : x = hp
      · subst c; rw [u2_s, if_pos rfl]
      · rw [u2_a c, if_neg c]
    rw [hG']
    unfold rkFw
    split
    · rw [rk_II, u2_k (by decide)]
      split
      · rw [rk_II, u2_k (by decide)]; exact e _ rfl
      · exact e _ rfl
    · split
      · rw [rk_II, u2_k (by decide)]; exact e _ rfl
      · exact e _ rfl
  have ol : rkOl G0 G' := fun x hx => by
    have x1 : x ≠ hp := fun z => hx (by rw [z]; exact hn.1)
    have hy : gK G x ≠ 0 := by rw [f1.1 x hx]; exact hx
    refine ⟨fun f a b => ?_, (hf.2.2.2.2.2 (by decide) x hy).trans (f2 x hx).2⟩
    by_cases c : f = 711
    · subst c
      rw [i711, if_neg x1]
      exact (f2 x hx).1 711 a b
    · exact ((hf.2.1 f x hy (by simp; omega)).1).trans ((f2 x hx).1 f a b)
  have hz' : rkZ G' B S := rkZ_fr z hf (by decide) (fun x y => by cases y)
  have N : ∀ f : Nat, f ≠ 711 → f ≠ 1306 → f ≠ 1305 → ∀ x, gK G x ≠ 0 → gI G' f x = gI G f x ∧ gP G' f x = gP G f x := fun f a b c x hx => hf.2.1 f x hx (by simp; omega)
  refine ⟨⟨hz', ⟨fr_tr f1 (fr_wide hf (by decide) (fun x y => by cases y)), ol⟩, ⟨m, _, _, _, _, _, rkHv_fr v hf (by decide) (hf.2.2.1 (B 2) (by rw [z.1.1.2.1.2.1]; decide) List.not_mem_nil), hm, ?_, h32, ar, rkSn_fr khp s1 hf (by decide) ⟨rfl, fun _ _ _ => rfl⟩⟩, ⟨by rw [hf.2.2.1 ch (by rw [c2]; decide) List.not_mem_nil]; exact c1, (hf.1 ch (by rw [c2]; decide)).trans c2, ((N 1304 (by decide) (by decide) (by decide) rq krq).2).trans c3⟩, ?_, ((N 702 (by decide) (by decide) (by decide) hp khp).1).trans (v.2.2.2.1.trans h67)⟩, ⟨(hf.1 rq krq).trans r0, ?_, ((N 1301 (by decide) (by decide) (by decide) rq krq).1).trans r2, ((N 1302 (by decide) (by decide) (by decide) rq krq).1).trans r3, ((N 1303 (by decide) (by decide) (by decide) rq krq).1).trans r4, ?_, ?_, ((N 1307 (by decide) (by decide) (by decide) rq krq).1).trans r7⟩, (N 709 (by decide) (by decide) (by decide) hp khp).1, (N 710 (by decide) (by decide) (by decide) hp khp).1, by rw [i711, if_pos rfl]⟩
  · rw [s3, (N 706 (by decide) (by decide) (by decide) hp khp).1, s2]
    rfl
  · rw [(N 700 (by decide) (by decide) (by decide) hp khp).2, rkAt_same (hf.2.2.1 (B 2) (by rw [z.1.1.2.1.2.1]; decide) List.not_mem_nil)]
    exact v.2.1
  · rw [(N 1300 (by decide) (by decide) (by decide) rq krq).2, rkAt_same (hf.2.2.1 (B 3) (by rw [z.1.1.2.1.2.2.1]; decide) List.not_mem_nil)]
    exact r1
  · have e : gI G' 1305 rq = if (S 13 m.toNat = 2 ∨ (S 13 m.toNat ≤ 1 ∧ S 66 0 = 1)) then 0 else gI G 1305 rq := by
      rw [hG']
      unfold rkFw
      split
      · rw [rk_II, u2_s]
      · split
        · rw [rk_II, u2_k (by decide), rk_II, u2_k (by decide)]
        · rw [rk_II, u2_k (by decide)]
    rw [e, r5]
    unfold rHow
    by_cases c : S 13 m.toNat = 2 ∨ (S 13 m.toNat ≤ 1 ∧ S 66 0 = 1)
    · rw [if_pos c]
      by_cases d : (S 13 m.toNat < 2 ∧ S 66 0 = 1) ∨ (S 13 m.toNat = 2 ∧ 0 < S 66 0)
      · rw [if_pos d]
      · rw [if_neg d]; omega
    · rw [if_neg c, if_neg (by omega)]
  · have e : gI G' 1306 rq = if (S 62 0 = 1 ∧ rkCr S (S 67 0) m (S 61 0) = true ∧ rSame S (S 12 m.toNat) m = false) then 1 else gI G 1306 rq := by
      rw [hG']
      unfold rkFw
      split
      · rw [rk_II, u2_k (by decide)]
        split
        · rw [rk_II, u2_s]
        · rw [rk_II, u2_k (by decide)]
      · split
        · rw [rk_II, u2_s]
        · rw [rk_II, u2_k (by decide)]
    have ec : rkCr S (S 67 0) m (S 61 0) = rCross S m := Bool.or_comm _ _
    rw [e, r6, ec]
    unfold rTnt
    by_cases c : S 62 0 = 1 ∧ rCross S m = true ∧ rSame S (S 12 m.toNat) m = false
    · rw [if_pos c, if_pos (Or.inr c)]
    · rw [if_neg c]
      rcases hz with hz | hz
      · rw [if_neg (show ¬ (¬ S 67 0 = 0 ∨ (S 62 0 = 1 ∧ rCross S m = true ∧ rSame S (S 12 m.toNat) m = false)) from fun y => y.elim (fun w => w hz) c)]; exact hz
      · rw [if_pos (show (¬ S 67 0 = 0 ∨ (S 62 0 = 1 ∧ rCross S m = true ∧ rSame S (S 12 m.toNat) m = false)) from Or.inl (by omega))]; exact hz
end TAKE3
