/-! rows laid by program (wip/tools/genp.py) -/
theorem rRqIs_t {R : RT} {pg ad : Int} : rRqIs R pg ad = true ↔ ((0 ≤ pg ∧ pg ≤ R 24 0 - 1) ∧ (0 ≤ ad ∧ ad ≤ R 7 0 - 1)) := by
  unfold rRqIs rIsPage rIsAddress
  rw [Bool.and_eq_true, rLies_t, rLies_t]
theorem rRqOk_t {me mo cr hd : Int} : rRqOk me mo cr hd = true ↔ ((0 ≤ me ∧ me ≤ 2) ∧ (0 ≤ mo ∧ mo ≤ 2) ∧ (0 ≤ cr ∧ cr ≤ 2) ∧ (mo = 1 ∨ (me < 2 ∧ hd = 0))) := by
  unfold rRqOk
  simp only [Bool.and_eq_true, Bool.or_eq_true, rLies_t, decide_eq_true_iff]
theorem rkJf_in {R : RT} {md pg : Int} {av tv rf lt rd : Int → Int} : ∀ (n : Nat) (j : Int) (w : Bool), 0 ≤ rkJf R md pg av tv rf lt rd n j w ∧ rkJf R md pg av tv rf lt rd n j w ≤ 5 := by
  intro n
  induction n with
  | zero => intro j w; rw [rkJf]; split <;> decide
  | succ n ih =>
    intro j w
    rw [rkJf]
    split
    · decide
    · split
      · decide
      · split
        · decide
        · split
          · decide
          · exact ih _ _
/-- the loop of a request -/
def rkLp (B : Nat → Nat) (G0 G : GT) (R0 : RT) (rq ch : Nat) (cr a i : Int) (r : Option Nat) : Prop := (0 ≤ i ∧ i ≤ 6) ∧ ((∃ (b : Int) (S : RT) (av tv : Int → Int), r = some (rkAt G (B 2) b) ∧ (0 ≤ b ∧ b < R0 7 0) ∧ rkGo B G0 G R0 S rq ch cr i a b av tv) ∨ (∃ (t n : Int) (S : RT) (av tv : Int → Int), (r = none ∨ i = 6) ∧ rkDn B G0 G R0 S rq ch n a t av tv))
section REQ
variable {G G1 G3 Gi : GT} {B : Nat → Nat} {R R0 S : RT} {rq ch : Nat} {pg ad me mo cr hd n t i k a b : Int} {av tv : Int → Int}
theorem rkDn_end (hRR : RR R) (h32 : ∀ j, 0 ≤ S 32 j ∧ S 32 j ≤ 12) (hS : rkPs G B R) (hZ : rkZ G B R) (hF : Fs R R0) (hO0 : rkOw R R0 (6 * R 28 0)) (h28 : 0 ≤ R 28 0 ∧ R 28 0 ≤ 39) (e28 : R0 28 0 = R 28 0) (h61 : 0 ≤ R0 61 0 ∧ R0 61 0 < R 24 0) (h : rkDn B G Gi R0 S rq ch n ad t av tv) : rkZ Gi B (u2 (u2 S 29 (R 28 0).toNat t) 28 0 (R 28 0 + 1)) ∧ rkPs Gi B (u2 (u2 S 29 (R 28 0).toNat t) 28 0 (R 28 0 + 1)) ∧ rkKp B G Gi ∧ RR (u2 (u2 S 29 (R 28 0).toNat t) 28 0 (R 28 0 + 1)) := by
  obtain ⟨⟨z, kp, ⟨n1, n2, n3, n4, n5⟩, ⟨r0, r1, r2⟩, ⟨c1, c2, c3⟩, ⟨l1, l2⟩, o⟩, hn, ⟨f1, f2, f3⟩, hgo, hj⟩ := h
  obtain ⟨F, hF0⟩ : ∃ F : RT, F = u2 (u2 S 29 (R 28 0).toNat t) 28 0 (R 28 0 + 1) := ⟨_, rfl⟩
  have oF : ∀ f : Nat, f ≠ 28 → f ≠ 29 → F f = S f := fun f h1 h2 => by rw [hF0]; funext j; rw [u2_k h1, u2_k h2]
  have F28 : F 28 0 = R 28 0 + 1 := by rw [hF0]; exact u2_s
  have F29 : F 29 (R 28 0).toNat = t := by rw [hF0, u2_k (by decide)]; exact u2_s
  have tin : 0 ≤ t ∧ t ≤ 5 := by rw [hj]; exact rkJf_in _ _ _
  have iR := z.1.2.2.2.2.2.2.2.2.2.2.1
  have iF : ∀ k j, InR (F k j) := by rw [hF0]; exact InR_u (InR_u iR ⟨by omega, by omega⟩) ⟨by omega, by omega⟩
  have hz : rkZ Gi B F := rkZ_R z (fun f hf => oF f (by omega) (by omega)) iF
  have FR : Fs R F := fun f h1 h2 => by rw [oF f (by omega) (by omega), f1 f h1 h2, hF f h1 h2]
  have F0 : Fs R0 F := fun f h1 h2 => by rw [oF f (by omega) (by omega), f1 f h1 h2]
  have e7 : F 7 0 = R 7 0 := congrFun (FR 7 (by decide) (by decide)) 0
  have e24 : F 24 0 = R 24 0 := congrFun (FR 24 (by decide) (by decide)) 0
  have e70 : R0 7 0 = R 7 0 := congrFun (hF 7 (by decide) (by decide)) 0
  have e30 : F 30 (R 28 0).toNat = n := by rw [oF 30 (by decide) (by decide), ← e28]; exact f3
  obtain ⟨⟨p1, p2⟩, p3⟩ := hS
  have hP : RP R := hZ.1.2.2.2.2.2.2.2.2.1
  rw [← hF0]
  have hO : rkOw R F (6 * R 28 0) := by
    refine rkOw_tr hO0 (rkOw_tr (by rw [← e28]; exact o) (T := F) (s := 6 * R 28 0) ⟨fun j hjn => ?_, fun j _ => by rw [oF 30 (by decide) (by decide)], fun j _ => ⟨by rw [oF 31 (by decide) (by decide)], by rw [oF 32 (by decide) (by decide)], fun i _ => by rw [oF 33 (by decide) (by decide)]⟩⟩ (Int.le_refl _) f2) (Int.le_refl _) e28
    rw [hF0, u2_k (by decide), u2_a (by rw [f2, e28] at hjn; exact hjn)]
  have A : ∀ r, 0 ≤ r → r < R 28 0 → rkAt Gi (B 4) r = rkAt G (B 4) r := fun r r0 r1 => rkAt_app p1 n3 r0 r1
  have An : rkAt Gi (B 4) (R 28 0) = rq := rkAt_new p1 n3
  have old : ∀ r, 0 ≤ r → r < R 28 0 → rkRr Gi B F r (rkAt Gi (B 4) r) := fun r r0 r1 => by
    rw [A r r0 r1]
    exact rkRr_k ⟨p2 r r0 r1, p3 r r0 r1⟩ hP kp ⟨r0, r1⟩ (fun i _ _ => rkAt_same n4 i) (fun i _ _ => rkAt_same n5 i) (by omega) (by omega) (fun j _ => by rw [FR 25 (by decide) (by decide)]) (fun j _ => ⟨by rw [FR 8 (by decide) (by decide)], by rw [FR 9 (by decide) (by decide)], by rw [FR 10 (by decide) (by decide)]⟩) hO (Int.le_refl _)
  have hpr : ∀ j, 0 ≤ j → j < n → rkHp Gi B F (6 * R 28 0 + j) (rkAt Gi ch j) := fun j j0 j1 => by
    obtain ⟨w1, -⟩ := l2 j j0 j1
    rw [e28] at w1
    exact rkHp_k w1 (rkKp_kq (B := B) rkKp_rfl) (fun _ _ _ => rfl) (by rw [oF 7 (by decide) (by decide)]; exact Int.le_refl _) ⟨by rw [oF 31 (by decide) (by decide)], by rw [oF 32 (by decide) (by decide)], fun i _ _ => by rw [oF 33 (by decide) (by decide)]⟩
  have new : rkRr Gi B F (R 28 0) (rkAt Gi (B 4) (R 28 0)) := by
    rw [An]
    refine ⟨⟨r0, ch, c2, c1, by rw [e30]; exact l1, fun j j0 j1 => hpr j j0 (by rw [e30] at j1; exact j1)⟩, R0 61 0, R0 62 0, ch, av, tv, ⟨r1, r2, c2, c3⟩, ⟨h61.1, by omega⟩, by rw [e30]; omega, fun j j0 j1 => ?_, ?_⟩
    · rw [e30] at j1
      obtain ⟨-, w2, w3, w4⟩ := l2 j j0 j1
      exact ⟨⟨w2.1, by omega⟩, w3, w4⟩
    · rw [F29, hj, e30]
      exact (rkJf_eq _ _ _ (fun i _ _ => ⟨rkMx_G F0, rkCr_F F0, rfl, rfl, rfl⟩)).symm
  refine ⟨hz, ⟨⟨by rw [n3, F28, List.length_append, List.length_singleton]; omega, fun r r0 r1 => ?_⟩, fun r r0 r1 => ?_⟩, kp, by rw [F28]; omega, fun r hr => ?_, fun q => by rw [oF 32 (by decide) (by decide)]; exact h32 q⟩
  · by_cases c : r = R 28 0
    · subst c; exact new.1
    · exact (old r r0 (by omega)).1
  · by_cases c : r = R 28 0
    · subst c; exact new.2
    · exact (old r r0 (by omega)).2
  · rw [F28] at hr
    by_cases c : r = (R 28 0).toNat
    · rw [c, e30]; exact hn
    · rw [hO.2.1 r c]; exact hRR.2.1 r (by omega)
/-- a request begins -/
theorem rkGo_make (hZ : rkZ G B R) (hS : rkPs G B R) (hX : RX R (6 * R 28 0)) (h28 : 0 ≤ R 28 0 ∧ R 28 0 ≤ 39) (h1 : 0 ≤ pg ∧ pg < R 24 0) (h2 : 0 ≤ me ∧ me ≤ 2) (h3 : 0 ≤ mo ∧ mo ≤ 2) (h4 : 0 ≤ ad ∧ ad < R 7 0) (hc : 0 ≤ cr ∧ cr ≤ 2) (hhd : hd = 0 ∨ hd = 1) (hC : InR (rRqC R pg ad me mo cr hd)) (hrq : gK G rq = 0) (hG1 : G1 = nO G rq 13) (hch : gK G1 ch = 0) (hG3 : G3 = sL (rkNewRq G1 rq (rkAt G1 (B 3) pg) mo (if mo = 2 then 2 else cr) hd me (bI (decide (¬ mo = 2) && rFor R pg)) ch) (B 4) (gL G (B 4) ++ [rq])) : rkGo B G G3 (rRq0 R pg ad me mo cr hd) (rRq0 R pg ad me mo cr hd) rq ch (if mo = 2 then 2 else cr) 0 ad ad av tv := by
  obtain ⟨⟨k1, k2, k3, k4⟩, m2, m3, m1, m4⟩ := rkB_l3 hZ.1.1
  have hne := hZ.1.1.2.2.2
  obtain ⟨n12, n13, n14, n15, n18, n19, n23, n24, n25, n28, n29, n34, n35, n38, n39, n45, n48, n49, n58, n59, n89⟩ := hne
  have hF1 : rkFr [] [B 4] G G1 := by rw [hG1]; exact fr_nO hrq (by decide) fr_rfl
  have ch0 : gK G ch = 0 := fr_q hF1 hch
  have kr1 : gK G1 rq = 13 := by rw [hG1]; exact nO_q
  have hne : rq ≠ ch := fun z => by rw [← z, kr1] at hch; cases hch
  have hF3 : rkFr [] [B 4] G G3 := by
    rw [hG3]
    exact fr_sL List.mem_cons_self (fr_sIq hrq (fr_sIq hrq (fr_sPq hrq (by decide) (fr_sLq ch0 (fr_sKq ch0 (fr_sIq hrq (fr_sIq hrq (fr_sIq hrq (fr_sPq hrq (by decide) hF1)))))))))
  have oR : ∀ f : Nat, f ≠ 30 ∧ (f < 61 ∨ 71 < f) → rRq0 R pg ad me mo cr hd f = R f := fun f hf => rRq0_out hf
  have e28 : rRq0 R pg ad me mo cr hd 28 0 = R 28 0 := by rw [oR 28 (by decide)]
  have iR := hZ.1.2.2.2.2.2.2.2.2.2.2.1
  have h01 : rRqAf R pg mo = 0 ∨ rRqAf R pg mo = 1 := by unfold rRqAf; split <;> simp
  have hr0 : ∀ k j, InR (rRq0 R pg ad me mo cr hd k j) := by
    have a1 : InR (rRqAl mo cr) := by unfold rRqAl; split <;> exact ⟨by decide, by decide⟩
    have a2 : InR (if cr = 1 then (1 : Int) else 0) := by split <;> exact ⟨by decide, by decide⟩
    have a3 : InR (rRqAf R pg mo) := by rcases h01 with z | z <;> rw [z] <;> exact ⟨by decide, by decide⟩
    have ap := hZ.1.2.2.2.2.2.2.2.2.1.1
    unfold rRq0 rRqN
    exact InR_u (InR_u (InR_u (InR_u (InR_u (InR_u (InR_u (InR_u (InR_u (InR_u (InR_u iR hC) ⟨by omega, by omega⟩) ⟨by omega, by omega⟩) ⟨by omega, by omega⟩) a1) a2) (by rcases hhd with z | z <;> rw [z] <;> exact ⟨by decide, by decide⟩)) ⟨by decide, by decide⟩) a3) ⟨by decide, by decide⟩) ⟨by decide, by decide⟩
  have hz3 : rkZ G3 B R := rkZ_fr hZ hF3 (fun k z => by cases z) (fun x z => by
    rw [List.mem_singleton.mp z]
    have kb := hZ.1.1.2.1.2.2.2.1
    exact ⟨by rw [kb]; decide, n14.symm, n24.symm, n34.symm, n45, n48, n49⟩)
  have nb : ∀ x, x ≠ B 4 → gK G x ≠ 0 → gL G3 x = gL G x := fun x hx h0 => hF3.2.2.1 x h0 (by simpa using hx)
  have I3 : ∀ f x : Nat, gI G3 f x = u2 (u2 (u2 (u2 (u2 (gI G1) 1301 rq mo) 1302 rq (if mo = 2 then 2 else cr)) 1303 rq hd) 1305 rq me) 1307 rq (bI (decide (¬ mo = 2) && rFor R pg)) f x := fun f x => by rw [hG3]; rfl
  have P3 : ∀ f x : Nat, gP G3 f x = u2 (u2 (gP G1) 1300 rq (some (rkAt G1 (B 3) pg))) 1304 rq (some ch) f x := fun f x => by rw [hG3]; rfl
  have K3 : ∀ x, gK G3 x = va_up (gK G1) ch 20 x := fun x => by rw [hG3]; rfl
  have krq : gK G3 rq = 13 := by rw [K3]; exact (if_neg hne).trans kr1
  have kch : gK G3 ch = 20 := by rw [K3]; exact if_pos rfl
  have nB : ∀ i, i < 10 → gK G (B i) ≠ 0 := fun i hi => by
    obtain ⟨⟨b0, b6, b7⟩, ⟨q1, q2, q3, q4, q5, q8, q9⟩, -⟩ := hZ.1.1
    have : i = 0 ∨ i = 1 ∨ i = 2 ∨ i = 3 ∨ i = 4 ∨ i = 5 ∨ i = 6 ∨ i = 7 ∨ i = 8 ∨ i = 9 := by omega
    rcases this with rfl | rfl | rfl | rfl | rfl | rfl | rfl | rfl | rfl | rfl <;> omega
  have chB : ∀ i, i < 10 → ch ≠ B i := fun i hi z => nB i hi (by rw [← z]; exact ch0)
  have el3 : gL G1 (B 3) = gL G (B 3) := by rw [hG1]; rfl
  have e33 : gL G3 (B 3) = gL G (B 3) := nb _ n34 k3
  have lch : gL G3 ch = [] := by
    rw [hG3, sL_n (chB 4 (by decide))]
    show va_up (gL G1) ch [] ch = []
    exact if_pos rfl
  have r0 : gP G3 1300 rq = some (rkAt G3 (B 3) pg) := by rw [P3, u2_k (by decide), u2_s, rkAt_same el3, rkAt_same e33]
  have r1 : gI G3 1301 rq = mo := by rw [I3, u2_k (by decide), u2_k (by decide), u2_k (by decide), u2_k (by decide), u2_s]
  have r4 : gP G3 1304 rq = some ch := by rw [P3, u2_s]
  refine ⟨⟨rkZ_R hz3 (fun f hf => oR f (by omega)) hr0, rkKp_fr hF3 (fun k z => by cases z) (fun x z => Or.inr ⟨4, by decide, List.mem_singleton.mp z⟩), ⟨hrq, ch0, by rw [hG3]; exact sL_s, nb _ n24 k2, e33⟩, ⟨krq, r0, r1⟩, ⟨kch, r4, chB⟩, ⟨by rw [lch]; rfl, fun j j0 j1 => by omega⟩, rkOw_rfl (fun _ _ _ => rfl)⟩, fun j j0 j1 => by omega, rfl, ⟨krq, r0, r1, ?_, ?_, ?_, ?_, ?_⟩, ⟨rRq0_I hX ⟨h1.1, by omega⟩ h2 h3 ⟨h4.1, by omega⟩, fun _ _ _ => rfl, Or.inl rfl, ?_⟩, ⟨Int.le_refl _, by decide⟩, rfl⟩
  · rw [I3, u2_k (by decide), u2_k (by decide), u2_k (by decide), u2_s]
  · rw [I3, u2_k (by decide), u2_k (by decide), u2_s]; rfl
  · rw [I3, u2_k (by decide), u2_s]; rfl
  · rw [I3, u2_k (by decide), u2_k (by decide), u2_k (by decide), u2_k (by decide), u2_k (by decide), hG1]
    exact nO_I0 (by decide)
  · rw [I3, u2_s]
    show _ = rRqAf R pg mo
    unfold rRqAf
    by_cases c : mo = 2
    · rw [decide_eq_false (show ¬ ¬ mo = 2 from fun z => z c), if_neg (fun z => z.1 c)]; rfl
    · rw [decide_eq_true (show ¬ mo = 2 from c)]
      by_cases d : rFor R pg = true
      · rw [d, if_pos ⟨c, rfl⟩]; rfl
      · rw [rbf d, if_neg (fun z => by cases z.2)]; rfl
  · exact h01
end REQ
section LOOPQ
variable {G Gi G9 : GT} {B : Nat → Nat} {R0 S : RT} {rq ch : Nat} {cr a i b : Int} {r : Option Nat} {av tv : Int → Int} {v : Option Value}
theorem rkLp_6 (h : rkLp B G Gi R0 rq ch cr a i r) (hi : 6 ≤ i) : ∃ (t n : Int) (S : RT) (av tv : Int → Int), rkDn B G Gi R0 S rq ch n a t av tv := by
  obtain ⟨h0, ⟨b, S, av, tv, h1, h2, h3⟩ | ⟨t, n, S, av, tv, h1, h2⟩⟩ := h
  · have := h3.2.2.2.2.2.1
    omega
  · exact ⟨t, n, S, av, tv, h2⟩
theorem rkLp_n (h : rkLp B G Gi R0 rq ch cr a i r) (hr : r = none) : ∃ (t n : Int) (S : RT) (av tv : Int → Int), rkDn B G Gi R0 S rq ch n a t av tv := by
  obtain ⟨h0, ⟨b, S, av, tv, h1, h2, h3⟩ | ⟨t, n, S, av, tv, h1, h2⟩⟩ := h
  · rw [hr] at h1; cases h1
  · exact ⟨t, n, S, av, tv, h2⟩
theorem rkLp_s {x : Nat} (h : rkLp B G Gi R0 rq ch cr a i r) (hr : r = some x) (hi : i < 6) : ∃ (b : Int) (S : RT) (av tv : Int → Int), r = some (rkAt Gi (B 2) b) ∧ (0 ≤ b ∧ b < R0 7 0) ∧ rkGo B G Gi R0 S rq ch cr i a b av tv := by
  obtain ⟨h0, h1 | ⟨t, n, S, av, tv, h1, h2⟩⟩ := h
  · exact h1
  · rcases h1 with h1 | h1
    · rw [hr] at h1; cases h1
    · omega
theorem rkLp_step (h : rkGo B G Gi R0 S rq ch cr i a b av tv) (hH : RH R0) (hA : RA R0) (hD : RAd R0) (hS : RS R0) (h28 : 0 ≤ R0 28 0 ∧ R0 28 0 ≤ 39) (hTo : rkTo Gi G9 B S rq ch (gL Gi ch) cr b i v) : ∃ r9 : Option Nat, v = some (va_rf r9) ∧ rkLp B G G9 R0 rq ch cr a (i + 1) r9 := by
  have hk := h.2.2.2.2.2.1
  rcases rkGo_step h hH hA hD hS h28 hTo with ⟨b', T, av', tv', w1, w2, w3, w4⟩ | ⟨t, T, av', tv', r, w1, w2, w3⟩
  · exact ⟨_, w3, ⟨by omega, by omega⟩, Or.inl ⟨b', T, av', tv', rfl, w2, w4⟩⟩
  · exact ⟨r, w1, ⟨by omega, by omega⟩, Or.inr ⟨t, i + 1, T, av', tv', w2.elim Or.inl (fun z => Or.inr (by omega)), w3⟩⟩
end LOOPQ
set_option maxHeartbeats 2000000 in
set_option maxRecDepth 100000 in
theorem c_X11_request {E : EV} {l : Launch} {G : GT} {B : Nat → Nat} {R : RT} (hZ : rkZ G B R) (hS : rkPs G B R) (hX : RX R (6 * R 28 0)) (hRR : RR R) (hO : ∀ i, 0 ≤ i → i < R 7 0 → (0 ≤ R 16 i.toNat ∧ R 16 i.toNat ≤ 3) ∧ (0 ≤ R 17 i.toNat ∧ R 17 i.toNat ≤ 1000)) (hT : R 0 0 ≤ 900000000) {pg ad me mo cr hd : Int} (hx1 : InR pg) (hx2 : InR ad) (hx3 : InR me) (hx4 : InR mo) (hx5 : InR cr) (hhd : hd = 0 ∨ hd = 1) (hl : l.stackTraces = false) : MX E l yX11_request cX11_request 12 (some .int) 10 268 71 2975 [.ref (B 0), .int (i32 pg), .int (i32 ad), .int (i32 me), .int (i32 mo), .int (i32 cr), .int (i32 hd)] (G) (fun v G' => v = some (.int (i32 (rRq R pg ad me mo cr hd))) ∧ rRqC R pg ad me mo cr hd = 0 ∧ (rkZ G' B (rRqR R pg ad me mo cr hd) ∧ rkPs G' B (rRqR R pg ad me mo cr hd) ∧ rkKp B G G' ∧ RR (rRqR R pg ad me mo cr hd)) ∧ RX (rRqR R pg ad me mo cr hd) (6 * rRqR R pg ad me mo cr hd 28 0) ∧ Fs R (rRqR R pg ad me mo cr hd)) (fun nx G' => G' = G ∧ rkX nx (rRqC R pg ad me mo cr hd)) := by
  refine mx_of (own := RX11) (L := [some (.ref (B 0)), some (.int (i32 pg)), some (.int (i32 ad)), some (.int (i32 me)), some (.int (i32 mo)), some (.int (i32 cr)), some (.int (i32 hd)), none, none, none, none, none]) (by decide +kernel) rfl (Nat.le_of_ble_eq_true rfl) (List.forall_mem_cons.mpr ⟨rfl, (List.forall_mem_cons.mpr ⟨rfl, (List.forall_mem_cons.mpr ⟨rfl, (List.forall_mem_cons.mpr ⟨rfl, (List.forall_mem_cons.mpr ⟨rfl, (List.forall_mem_cons.mpr ⟨rfl, (List.forall_mem_cons.mpr ⟨rfl, (fun _ h => absurd h List.not_mem_nil)⟩)⟩)⟩)⟩)⟩)⟩)⟩) rfl ?_
  intro p e s m args below meth c C hin htab
  refine x_wf (fun hw => ?_)
  have hW := hZ.1
  obtain ⟨hB, hH, hA, hP, hI⟩ := id hW
  obtain ⟨⟨b0, b6, b7⟩, ⟨bk1, bk2, bk3, bk4, bk5, bk8, bk9⟩, ⟨bp0, bp1, bp2, bp3, bp4, bp5, bp6, bp7, bp8⟩, -⟩ := id hB
  obtain ⟨hl1, hh1⟩ := id hH
  obtain ⟨hl2, hh2⟩ := id hA
  obtain ⟨hl3, hh3⟩ := id hP
  obtain ⟨iH, iA, iAd, iHl, iP, iS, hRw, iU⟩ := id hI
  have iH1 := iH.1
  have iA1 := iA.1
  have iA2 := iA.2
  have iP1 := iP.1
  obtain ⟨⟨hl4, hh4⟩, hv4⟩ := id hS
  have h28 := hRR.1
  refine x_aload_n 1 C dX11_request_0 rfl rfl ?_
  refine x_iload_n 2 C dX11_request_1 rfl rfl ?_
  refine x_callVX (As := [_]) 5 14 70 2969 C htab vw_X11_218 iw_X11_pageAt sw_X11_pageAt (c_X11_pageAt hW hx1 hl) (aw_i 938 (by decide +kernel) rfl) dX11_request_2 rfl rfl rfl rfl rfl rfl (by assumption) ⟨Nat.le_of_ble_eq_true rfl, Nat.le_of_ble_eq_true rfl⟩ (Nat.le_of_ble_eq_true rfl) ⟨by omega, by omega⟩ (fun nx G' hx => (by obtain ⟨q1, hG8, hn8⟩ := hx; exact ⟨hG8, q1 ▸ rkX1 (if_pos (rbf (fun z => absurd (rRqIs_t.mp z) (by omega))))⟩)) (fun v G' hq => ?_)
  obtain ⟨rfl, hG9, hq1, hq2⟩ := hq
  replace hG9 := hG9.symm
  subst hG9
  refine x_as rfl rfl rfl ?_
  obtain ⟨pk1, pk2, pk3, pk4⟩ := hh3 pg hq1 hq2
  refine x_astore 7 C dX11_request_5 rfl rfl rfl ?_
  refine x_aload_n 8 C dX11_request_7 rfl rfl ?_
  refine x_iload_n 9 C dX11_request_8 rfl rfl ?_
  refine x_callVX (As := [_]) 12 14 69 2963 C htab vw_X11_100 iw_X11_addressAt sw_X11_addressAt (c_X11_addressAt hW hx2 hl) (aw_i 828 (by decide +kernel) rfl) dX11_request_9 rfl rfl rfl rfl rfl rfl (by assumption) ⟨Nat.le_of_ble_eq_true rfl, Nat.le_of_ble_eq_true rfl⟩ (Nat.le_of_ble_eq_true rfl) ⟨by omega, by omega⟩ (fun nx G' hx => (by obtain ⟨q1, hG8, hn8⟩ := hx; exact ⟨hG8, q1 ▸ rkX1 (if_pos (rbf (fun z => absurd (rRqIs_t.mp z) (by omega))))⟩)) (fun v G' hq => ?_)
  obtain ⟨rfl, hG9, hq3, hq4⟩ := hq
  replace hG9 := hG9.symm
  subst hG9
  refine x_as rfl rfl rfl ?_
  refine x_astore 14 C dX11_request_12 rfl rfl rfl ?_
  refine x_iload_n 15 C dX11_request_14 rfl rfl ?_
  refine x_if_lt 18 45 C dX11_request_15 rfl (by decide) (by first | exact hRw _ _ | assumption | exact ⟨by omega, by omega⟩ | exact hw.1 _ _ | omega) (fun h15 => ?_) (fun h15 => ?_)
  · skip
    exact x_throw (text := "no such method, mode or credentials") C hl htab tqA (by decide +kernel) dX11_request_45 dX11_request_48 dX11_request_49 dX11_request_51 dX11_request_54 ⟨Nat.le_of_ble_eq_true rfl, Nat.le_of_ble_eq_true rfl⟩ ⟨by omega, by omega⟩ ⟨rfl, rkX2 ((if_neg (by rw [rRqIs_t.mpr (by omega)]; decide)).trans (if_pos (rbf (fun z => absurd (rRqOk_t.mp z) (by omega)))))⟩
  · skip
    refine x_iload_n 19 C dX11_request_18 rfl rfl ?_
    refine x_iconst 20 C dX11_request_19 rfl ?_
    refine x_icmp_gt 23 45 C dX11_request_20 rfl (by decide) (by first | exact hRw _ _ | assumption | exact ⟨by omega, by omega⟩ | exact hw.1 _ _ | omega) (by first | exact hRw _ _ | assumption | exact ⟨by omega, by omega⟩ | exact hw.1 _ _ | omega) (fun h20 => ?_) (fun h20 => ?_)
    · skip
      exact x_throw (text := "no such method, mode or credentials") C hl htab tqA (by decide +kernel) dX11_request_45 dX11_request_48 dX11_request_49 dX11_request_51 dX11_request_54 ⟨Nat.le_of_ble_eq_true rfl, Nat.le_of_ble_eq_true rfl⟩ ⟨by omega, by omega⟩ ⟨rfl, rkX2 ((if_neg (by rw [rRqIs_t.mpr (by omega)]; decide)).trans (if_pos (rbf (fun z => absurd (rRqOk_t.mp z) (by omega)))))⟩
    · skip
      refine x_iload 25 C dX11_request_23 rfl rfl ?_
      refine x_if_lt 28 45 C dX11_request_25 rfl (by decide) (by first | exact hRw _ _ | assumption | exact ⟨by omega, by omega⟩ | exact hw.1 _ _ | omega) (fun h25 => ?_) (fun h25 => ?_)
      · skip
        exact x_throw (text := "no such method, mode or credentials") C hl htab tqA (by decide +kernel) dX11_request_45 dX11_request_48 dX11_request_49 dX11_request_51 dX11_request_54 ⟨Nat.le_of_ble_eq_true rfl, Nat.le_of_ble_eq_true rfl⟩ ⟨by omega, by omega⟩ ⟨rfl, rkX2 ((if_neg (by rw [rRqIs_t.mpr (by omega)]; decide)).trans (if_pos (rbf (fun z => absurd (rRqOk_t.mp z) (by omega)))))⟩
      · skip
        refine x_iload 30 C dX11_request_28 rfl rfl ?_
        refine x_iconst 31 C dX11_request_30 rfl ?_
        refine x_icmp_gt 34 45 C dX11_request_31 rfl (by decide) (by first | exact hRw _ _ | assumption | exact ⟨by omega, by omega⟩ | exact hw.1 _ _ | omega) (by first | exact hRw _ _ | assumption | exact ⟨by omega, by omega⟩ | exact hw.1 _ _ | omega) (fun h31 => ?_) (fun h31 => ?_)
        · skip
          exact x_throw (text := "no such method, mode or credentials") C hl htab tqA (by decide +kernel) dX11_request_45 dX11_request_48 dX11_request_49 dX11_request_51 dX11_request_54 ⟨Nat.le_of_ble_eq_true rfl, Nat.le_of_ble_eq_true rfl⟩ ⟨by omega, by omega⟩ ⟨rfl, rkX2 ((if_neg (by rw [rRqIs_t.mpr (by omega)]; decide)).trans (if_pos (rbf (fun z => absurd (rRqOk_t.mp z) (by omega)))))⟩
        · skip
          refine x_iload 36 C dX11_request_34 rfl rfl ?_
          refine x_if_lt 39 45 C dX11_request_36 rfl (by decide) (by first | exact hRw _ _ | assumption | exact ⟨by omega, by omega⟩ | exact hw.1 _ _ | omega) (fun h36 => ?_) (fun h36 => ?_)
          · skip
            exact x_throw (text := "no such method, mode or credentials") C hl htab tqA (by decide +kernel) dX11_request_45 dX11_request_48 dX11_request_49 dX11_request_51 dX11_request_54 ⟨Nat.le_of_ble_eq_true rfl, Nat.le_of_ble_eq_true rfl⟩ ⟨by omega, by omega⟩ ⟨rfl, rkX2 ((if_neg (by rw [rRqIs_t.mpr (by omega)]; decide)).trans (if_pos (rbf (fun z => absurd (rRqOk_t.mp z) (by omega)))))⟩
          · skip
            refine x_iload 41 C dX11_request_39 rfl rfl ?_
            refine x_iconst 42 C dX11_request_41 rfl ?_
            refine x_icmp_le 45 55 C dX11_request_42 rfl (by decide) (by first | exact hRw _ _ | assumption | exact ⟨by omega, by omega⟩ | exact hw.1 _ _ | omega) (by first | exact hRw _ _ | assumption | exact ⟨by omega, by omega⟩ | exact hw.1 _ _ | omega) (fun h42 => ?_) (fun h42 => ?_)
            · skip
              refine x_joinK (kc1 := 69) (ks1 := 2963) (α := Unit) 81 (fun u => mo = 1 ∨ (¬ me = 2 ∧ hd = 0)) (fun u => G) (fun u => [some (.ref (B 0)), some (.int (i32 pg)), some (.int (i32 ad)), some (.int (i32 me)), some (.int (i32 mo)), some (.int (i32 cr)), some (.int (i32 hd)), some (.ref (rkAt G (B 3) pg)), some (.ref (rkAt G (B 2) ad)), none, none, none]) (fun u => []) ?_ (fun hJ81 => ?_)
              · intro aa hJ
                obtain ⟨u, rfl⟩ := (⟨aa, rfl⟩ : ∃ z, z = aa)
                (try dsimp only at hJ); (try dsimp only)
                have hJ8 := hJ
                refine x_joinK (kc1 := 69) (ks1 := 2963) (α := Unit) 117 (fun u => ¬ R 28 0 = 40 ∧ (mo = 2 → R 26 pg.toNat = -1)) (fun u => G) (fun u => [some (.ref (B 0)), some (.int (i32 pg)), some (.int (i32 ad)), some (.int (i32 me)), some (.int (i32 mo)), some (.int (i32 cr)), some (.int (i32 hd)), some (.ref (rkAt G (B 3) pg)), some (.ref (rkAt G (B 2) ad)), none, none, none]) (fun u => []) ?_ (fun hJ117 => ?_)
                · intro aa hJ
                  obtain ⟨u, rfl⟩ := (⟨aa, rfl⟩ : ∃ z, z = aa)
                  (try dsimp only at hJ); (try dsimp only)
                  refine x_joinv 129 (fun vJ => vJ = (if mo = 2 then 2 else cr)) ?_ (fun hJ129 => ?_)
                  · intro vJ hJ
                    subst hJ
                    refine x_istore 131 C dX11_request_129 rfl rfl rfl ?_
                    refine x_new (kc0 := 68) (ks0 := 2955) 134 13 C nwd_X11_240 rfl rfl dX11_request_131 rfl ⟨by omega, by omega⟩ (fun q131 hq131 => ?_)
                    obtain ⟨G1, hG1⟩ : ∃ G1 : GT, G1 = nO G q131 13 := ⟨_, rfl⟩
                    refine x_as (G' := G1) hG1 rfl rfl ?_
                    have hrq : gK G q131 = 0 := hq131
                    have hF1 : rkFr [] [B 4] G G1 := by (rw [hG1]; exact fr_nO hrq (by decide) fr_rfl)
                    have hZ1 : rkZ G1 B R := rkZ_fr (ls := []) hZ (by rw [hG1]; exact fr_nO (ks := []) hrq (by decide) fr_rfl) (fun k z => by cases z) (fun x z => by cases z)
                    have k1 : gK G1 q131 = 13 := by (rw [hG1]; exact nO_q)
                    have i06 : gI G1 1306 q131 = 0 := by (rw [hG1]; exact nO_I0 (by decide))
                    have el31 : gL G1 (B 3) = gL G (B 3) := by (rw [hG1]; rfl)
                    refine x_dup 135 C dX11_request_134 rfl rfl ?_
                    refine x_aload 137 C dX11_request_135 rfl rfl ?_
                    refine x_iload_n 138 C dX11_request_137 rfl rfl ?_
                    refine x_iload 140 C dX11_request_138 rfl rfl ?_
                    refine x_iload 142 C dX11_request_140 rfl rfl ?_
                    refine x_iload 144 C dX11_request_142 rfl rfl ?_
                    refine x_as (st' := [.int (i32 hd), .int (i32 (if mo = 2 then 2 else cr)), .int (i32 mo), .int (i32 me), .ref (rkAt G1 (B 3) pg), .ref q131, .ref q131]) rfl rfl (by rw [rkAt_same el31 pg]) ?_
                    refine x_callI (As := [_, _, _, _, _]) 147 67 2952 C vw_X11_242 iw_X10_init rfl (c_X10_init hZ1.1 k1 ⟨hq1, hq2⟩ i06 hx3 hx4 ⟨by (split <;> omega), by (split <;> omega)⟩ hhd) dX11_request_144 rfl rfl rfl ⟨Nat.le_of_ble_eq_true rfl, Nat.le_of_ble_eq_true rfl⟩ (Nat.le_of_ble_eq_true rfl) ⟨by omega, by omega⟩ (fun v G' hq => ?_)
                    obtain ⟨rfl, ch, hch, hG9⟩ := hq
                    obtain ⟨G2, hG2⟩ : ∃ z, z = G' := ⟨_, rfl⟩
                    subst hG2
                    refine x_as rfl rfl rfl ?_
                    have hF2 : rkFr [] [B 4] G G2 := by (rw [hG9]; exact (fr_sIq hrq (fr_sIq hrq (fr_sPq hrq (by decide) (fr_sLq (fr_q hF1 hch) (fr_sKq (fr_q hF1 hch) (fr_sIq hrq (fr_sIq hrq (fr_sIq hrq (fr_sPq hrq (by decide) hF1))))))))))
                    have hne : q131 ≠ ch := fun z => by (rw [← z, k1] at hch; cases hch)
                    have k2 : gK G2 q131 = 13 := by (rw [hG9]; exact (show va_up (gK G1) ch 20 q131 = 13 from (if_neg hne).trans k1))
                    have el42 : gL G2 (B 4) = gL G (B 4) := by (rw [hG9]; show va_up (gL G1) ch [] (B 4) = _; exact (if_neg (fun z => by (have h0 := fr_q hF1 hch; rw [← z] at h0; omega))).trans (by (rw [hG1]; rfl)))
                    have b02 : gK G2 (B 0) = 14 := (hF2.1 (B 0) (by omega)).trans b0
                    have b42 : gK G2 (B 4) = 20 := (hF2.1 (B 4) (by omega)).trans bk4
                    have np42 : gP G2 1403 (B 0) = some (B 4) := ((hF2.2.1 1403 (B 0) (by omega) List.not_mem_nil).2).trans bp3
                    refine x_astore 149 C dX11_request_147 rfl rfl rfl ?_
                    refine x_aload_n 150 C dX11_request_149 rfl rfl ?_
                    refine x_getO 153 1403 C fr_X11_22 dX11_request_150 rfl rfl rfl rfl (by assumption) (by assumption) ?_
                    refine x_aload 155 C dX11_request_153 rfl rfl ?_
                    refine x_callL (As := [_]) (ci := 2) 158 66 2892 C vw_X11_78 iw_Jx4a65c_add_9ea2d sw_Jx4a65c_add_9ea2d (c_add (ms := 60) b42 (show 3 ≤ gK G2 q131 ∧ gK G2 q131 ≤ 14 by omega) (fun x hx => by (rw [el42] at hx; obtain ⟨i, i0, i1, rfl⟩ := rkAt_mem hl4 hx; have h13 := (hh4 i i0 i1).1; rw [hF2.1 _ (by omega)]; omega)) (by rw [el42]; omega)) dX11_request_155 rfl rfl rfl rfl rfl (Or.inr (Or.inr ⟨rfl, b42⟩)) ⟨Nat.le_of_ble_eq_true rfl, Nat.le_of_ble_eq_true rfl⟩ (Nat.le_of_ble_eq_true rfl) ⟨by omega, by omega⟩ (fun v G' hq => ?_)
                    obtain ⟨rfl, hG9⟩ := hq
                    replace hG9 := hG9.symm
                    subst hG9
                    refine x_as rfl rfl rfl ?_
                    obtain ⟨G3, hG3⟩ : ∃ G3 : GT, G3 = sL G2 (B 4) (gL G (B 4) ++ [q131]) := ⟨_, rfl⟩
                    refine x_as (G' := G3) (by rw [hG3, el42]) rfl rfl ?_
                    have hc0 : rRqC R pg ad me mo cr hd = 0 := (if_neg (by rw [rRqIs_t.mpr (by omega)]; decide)).trans ((if_neg (by rw [rRqOk_t.mpr (by omega)]; decide)).trans (if_neg (fun z => z.elim (fun y => hJ.1 y) (fun y => y.2 (hJ.2 y.1)))))
                    have h39 : 0 ≤ R 28 0 ∧ R 28 0 ≤ 39 := ⟨h28.1, by (have := hJ.1; omega)⟩
                    have hGo0 : rkGo B G G3 (rRq0 R pg ad me mo cr hd) (rRq0 R pg ad me mo cr hd) q131 ch (if mo = 2 then 2 else cr) 0 ad ad (fun _ => 0) (fun _ => 0) := rkGo_make hZ hS hX h39 ⟨hq1, hq2⟩ ⟨by omega, by omega⟩ ⟨by omega, by omega⟩ ⟨hq3, hq4⟩ ⟨by omega, by omega⟩ hhd (by rw [hc0]; exact ⟨by decide, by decide⟩) hrq hG1 hch (by rw [hG3, hG9])
                    have e28 : (rRq0 R pg ad me mo cr hd) 28 0 = R 28 0 := by rw [rRq0_out (by decide)]
                    have hFs : Fs R (rRq0 R pg ad me mo cr hd) := rRq0_Fs
                    have el23 : gL G3 (B 2) = gL G (B 2) := hGo0.1.2.2.1.2.2.2.1
                    refine x_pop 159 C dX11_request_158 rfl rfl ?_
                    refine x_iconst 160 C dX11_request_159 rfl ?_
                    refine x_istore 162 C dX11_request_160 rfl rfl rfl ?_
                    refine x_loopK (α := Int × GT × Option Nat) (fun ⟨i, Gi, r⟩ => (6 - i).toNat) (fun ⟨i, Gi, r⟩ => rkLp B G Gi (rRq0 R pg ad me mo cr hd) q131 ch (if mo = 2 then 2 else cr) ad i r) (fun ⟨i, Gi, r⟩ => Gi) (fun ⟨i, Gi, r⟩ => [some (.ref (B 0)), some (.int (i32 pg)), some (.int (i32 ad)), some (.int (i32 me)), some (.int (i32 mo)), some (.int (i32 cr)), some (.int (i32 hd)), some (.ref (rkAt G (B 3) pg)), some (va_rf r), some (.int (i32 (if mo = 2 then 2 else cr))), some (.ref q131), some (.int (i32 i))]) (fun _ => []) (fun ⟨i, Gi, r⟩ => 11 * (6 - i).toNat) (fun ⟨i, Gi, r⟩ => 482 * (6 - i).toNat) (0, G3, some (rkAt G (B 2) ad)) ⟨⟨by decide, by decide⟩, Or.inl ⟨ad, _, _, _, by rw [rkAt_same el23], ⟨hq3, by rw [rRq0_out (by decide)]; exact hq4⟩, hGo0⟩⟩ rfl rfl rfl ⟨by (try dsimp only); omega, by (try dsimp only); omega⟩ ?_
                    intro aa hI ih
                    obtain ⟨i, Gi, r⟩ := aa
                    (try dsimp only at hI); (try dsimp only at ih); (try dsimp only)
                    have hi0 : 0 ≤ i ∧ i ≤ 6 := hI.1
                    refine x_iload 164 C dX11_request_162 rfl rfl ?_
                    refine x_bipush 166 C dX11_request_164 rfl (by decide) ?_
                    refine x_icmp_ge 169 190 C dX11_request_166 rfl (by decide) (by first | exact hRw _ _ | assumption | exact ⟨by omega, by omega⟩ | exact hw.1 _ _ | omega) (by first | exact hRw _ _ | assumption | exact ⟨by omega, by omega⟩ | exact hw.1 _ _ | omega) (fun h166 => ?_) (fun h166 => ?_)
                    · skip
                      have hDn := rkLp_6 hI h166
                      obtain ⟨t, n, S, av, tv, hDn⟩ := hDn
                      have hDn2 := hDn
                      obtain ⟨hDm, hnn, ⟨f1, f2, f3⟩, hDd, hDj⟩ := hDn2
                      have hWi : rkW Gi B (rRq0 R pg ad me mo cr hd) := rkW_R hDm.1.1 (fun f a b => (f1 f a b).symm) hGo0.1.1.1.2.2.2.2.2.2.2.2.2.2.1
                      have h61r : 0 ≤ (rRq0 R pg ad me mo cr hd) 61 0 ∧ (rRq0 R pg ad me mo cr hd) 61 0 < R 24 0 := ⟨hq1, hq2⟩
                      have h61i : 0 ≤ (rRq0 R pg ad me mo cr hd) 61 0 ∧ (rRq0 R pg ad me mo cr hd) 61 0 < (rRq0 R pg ad me mo cr hd) 24 0 := by (rw [hFs 24 (by decide) (by decide)]; exact h61r)
                      have hOw : rkOw R (rRq0 R pg ad me mo cr hd) (6 * R 28 0) := ⟨fun j _ => by rw [rRq0_out (by decide)], fun j hj => by (unfold rRq0; rw [u2_a hj, u2_k (by decide), u2_k (by decide)]; rfl), fun j _ => ⟨by rw [rRq0_out (by decide)], by rw [rRq0_out (by decide)], fun i _ => by rw [rRq0_out (by decide)]⟩⟩
                      have hhp : ∀ j, 0 ≤ j → j < n → (0 ≤ av j ∧ av j < (rRq0 R pg ad me mo cr hd) 7 0) ∧ ∃ me2 af nv qt : Int, rkHv Gi B (rkAt Gi ch j) (av j) me2 (tv j) af nv qt := fun j j0 j1 => by (obtain ⟨⟨_, _, _, _, _, _, hvv, -⟩, w1, w2, w3⟩ := hDm.2.2.2.2.2.1.2 j j0 j1; exact ⟨w1, _, _, _, _, hvv.1, w2, rfl, w3, rfl, rfl, rfl⟩)
                      refine x_aload 192 C dX11_request_190 rfl rfl ?_
                      refine x_callS (As := [_]) 195 (11 * (6 - i).toNat) (482 * (6 - i).toNat) C vw_X11_249 tw_X11_judge (c_X11_judge hWi ⟨hDm.2.2.2.1.1, hDm.2.2.2.1.2.1, hDm.2.2.2.1.2.2, rfl, rfl, rfl, rfl, rfl⟩ h61i ⟨hDm.2.2.2.2.1.2.1, hDm.2.2.2.2.1.1⟩ hDm.2.2.2.2.2.1.1 hnn.2 hhp) dX11_request_192 rfl rfl rfl ⟨Nat.le_of_ble_eq_true rfl, Nat.le_of_ble_eq_true rfl⟩ (Nat.le_of_ble_eq_true rfl) ⟨Nat.le_refl _, Nat.le_refl _⟩ (fun v G' hq => ?_)
                      obtain ⟨rfl, hG9⟩ := hq
                      replace hG9 := hG9.symm
                      subst hG9
                      refine x_as rfl rfl rfl ?_
                      have hg2 := hDd
                      have et := congrArg Prod.fst hg2
                      have es := congrArg Prod.snd hg2
                      have hgi := rRq0_I (ad := ad) (cr := cr) (hd := hd) hX (pg := pg) (me := me) (mo := mo) ⟨hq1, by omega⟩ ⟨by omega, by omega⟩ ⟨by omega, by omega⟩ ⟨hq3, by omega⟩
                      have hgf := rGoF_I (hFs.H iH) (hFs.A iA) (hFs.Ad iAd) (hFs.S iS) (by rw [e28]; omega) 6 0 ad (rRq0 R pg ad me mo cr hd) hgi (by decide) (by decide)
                      rw [← es] at hgf
                      (try dsimp only at hgf)
                      rw [e28] at hgf
                      have eR : rRqR R pg ad me mo cr hd = u2 (u2 S 29 (R 28 0).toNat t) 28 0 (R 28 0 + 1) := by (unfold rRqR; rw [hc0, if_neg (by decide)]; rw [show rGoesR (rRq0 R pg ad me mo cr hd) ad = S from es.symm, show rGoes2 (rRq0 R pg ad me mo cr hd) ad = t from et.symm])
                      have hend := rkDn_end hRR hgf.2.2.1.2.2.2.2.2.2.2.2 hS hZ hFs hOw h39 e28 h61r hDn
                      exact x_through (x_iret C dX11_request_195 rfl ⟨vi (by rw [← hDj]; unfold rRq; rw [hc0, if_neg (by decide)]; exact et), hc0, by (rw [eR]; exact hend), by (rw [eR]; exact RX_of (fun f hf => by (funext j; rw [u2_k (by omega), u2_k (by omega)])) (fun j => by (rw [u2_k (by decide), u2_k (by decide)]; exact hgf.2.2.1.2.2.2.2.2.2.2.2 j)) (by (rw [u2_s]; exact RX_mono hgf.2.2.1 (by omega)))), by (rw [eR]; exact fun f a b => by (rw [show u2 (u2 S 29 (R 28 0).toNat t) 28 0 (R 28 0 + 1) f = S f from funext fun j => by (rw [u2_k (by omega), u2_k (by omega)])]; exact (hgf.1 f a b).trans (hFs f a b)))⟩)
                    · skip
                      refine x_aloadq 171 C dX11_request_169 rfl rfl ?_
                      refine x_ifnull 174 190 C dX11_request_171 rfl (by decide) (fun h171 => ?_) (fun a171 h171 => ?_)
                      · skip
                        have hDn := rkLp_n hI h171
                        obtain ⟨t, n, S, av, tv, hDn⟩ := hDn
                        have hDn2 := hDn
                        obtain ⟨hDm, hnn, ⟨f1, f2, f3⟩, hDd, hDj⟩ := hDn2
                        have hWi : rkW Gi B (rRq0 R pg ad me mo cr hd) := rkW_R hDm.1.1 (fun f a b => (f1 f a b).symm) hGo0.1.1.1.2.2.2.2.2.2.2.2.2.2.1
                        have h61r : 0 ≤ (rRq0 R pg ad me mo cr hd) 61 0 ∧ (rRq0 R pg ad me mo cr hd) 61 0 < R 24 0 := ⟨hq1, hq2⟩
                        have h61i : 0 ≤ (rRq0 R pg ad me mo cr hd) 61 0 ∧ (rRq0 R pg ad me mo cr hd) 61 0 < (rRq0 R pg ad me mo cr hd) 24 0 := by (rw [hFs 24 (by decide) (by decide)]; exact h61r)
                        have hOw : rkOw R (rRq0 R pg ad me mo cr hd) (6 * R 28 0) := ⟨fun j _ => by rw [rRq0_out (by decide)], fun j hj => by (unfold rRq0; rw [u2_a hj, u2_k (by decide), u2_k (by decide)]; rfl), fun j _ => ⟨by rw [rRq0_out (by decide)], by rw [rRq0_out (by decide)], fun i _ => by rw [rRq0_out (by decide)]⟩⟩
                        have hhp : ∀ j, 0 ≤ j → j < n → (0 ≤ av j ∧ av j < (rRq0 R pg ad me mo cr hd) 7 0) ∧ ∃ me2 af nv qt : Int, rkHv Gi B (rkAt Gi ch j) (av j) me2 (tv j) af nv qt := fun j j0 j1 => by (obtain ⟨⟨_, _, _, _, _, _, hvv, -⟩, w1, w2, w3⟩ := hDm.2.2.2.2.2.1.2 j j0 j1; exact ⟨w1, _, _, _, _, hvv.1, w2, rfl, w3, rfl, rfl, rfl⟩)
                        refine x_aload 192 C dX11_request_190 rfl rfl ?_
                        refine x_callS (As := [_]) 195 (11 * (6 - i).toNat) (482 * (6 - i).toNat) C vw_X11_249 tw_X11_judge (c_X11_judge hWi ⟨hDm.2.2.2.1.1, hDm.2.2.2.1.2.1, hDm.2.2.2.1.2.2, rfl, rfl, rfl, rfl, rfl⟩ h61i ⟨hDm.2.2.2.2.1.2.1, hDm.2.2.2.2.1.1⟩ hDm.2.2.2.2.2.1.1 hnn.2 hhp) dX11_request_192 rfl rfl rfl ⟨Nat.le_of_ble_eq_true rfl, Nat.le_of_ble_eq_true rfl⟩ (Nat.le_of_ble_eq_true rfl) ⟨Nat.le_refl _, Nat.le_refl _⟩ (fun v G' hq => ?_)
                        obtain ⟨rfl, hG9⟩ := hq
                        replace hG9 := hG9.symm
                        subst hG9
                        refine x_as rfl rfl rfl ?_
                        have hg2 := hDd
                        have et := congrArg Prod.fst hg2
                        have es := congrArg Prod.snd hg2
                        have hgi := rRq0_I (ad := ad) (cr := cr) (hd := hd) hX (pg := pg) (me := me) (mo := mo) ⟨hq1, by omega⟩ ⟨by omega, by omega⟩ ⟨by omega, by omega⟩ ⟨hq3, by omega⟩
                        have hgf := rGoF_I (hFs.H iH) (hFs.A iA) (hFs.Ad iAd) (hFs.S iS) (by rw [e28]; omega) 6 0 ad (rRq0 R pg ad me mo cr hd) hgi (by decide) (by decide)
                        rw [← es] at hgf
                        (try dsimp only at hgf)
                        rw [e28] at hgf
                        have eR : rRqR R pg ad me mo cr hd = u2 (u2 S 29 (R 28 0).toNat t) 28 0 (R 28 0 + 1) := by (unfold rRqR; rw [hc0, if_neg (by decide)]; rw [show rGoesR (rRq0 R pg ad me mo cr hd) ad = S from es.symm, show rGoes2 (rRq0 R pg ad me mo cr hd) ad = t from et.symm])
                        have hend := rkDn_end hRR hgf.2.2.1.2.2.2.2.2.2.2.2 hS hZ hFs hOw h39 e28 h61r hDn
                        exact x_through (x_iret C dX11_request_195 rfl ⟨vi (by rw [← hDj]; unfold rRq; rw [hc0, if_neg (by decide)]; exact et), hc0, by (rw [eR]; exact hend), by (rw [eR]; exact RX_of (fun f hf => by (funext j; rw [u2_k (by omega), u2_k (by omega)])) (fun j => by (rw [u2_k (by decide), u2_k (by decide)]; exact hgf.2.2.1.2.2.2.2.2.2.2.2 j)) (by (rw [u2_s]; exact RX_mono hgf.2.2.1 (by omega)))), by (rw [eR]; exact fun f a b => by (rw [show u2 (u2 S 29 (R 28 0).toNat t) 28 0 (R 28 0 + 1) f = S f from funext fun j => by (rw [u2_k (by omega), u2_k (by omega)])]; exact (hgf.1 f a b).trans (hFs f a b)))⟩)
                      · skip
                        obtain ⟨b, S, av, tv, hrb, hb, hGo⟩ := rkLp_s hI h171 h166
                        have hGo2 := hGo
                        obtain ⟨hCm, hFl, h69, hrqi, ⟨⟨g1, g2, g3, g4, g5, g6⟩, h61s, h67s⟩, hk5, hgo⟩ := hGo2
                        subst h171
                        replace hrb := Option.some.inj hrb
                        subst hrb
                        have bi0 := hCm.1.1.1.1.1
                        have s63 : S 63 0 = rRqAl mo cr := congrFun (h61s 63 (by decide) (by decide)) 0
                        have s64 : S 64 0 = (if cr = 1 then 1 else 0) := congrFun (h61s 64 (by decide) (by decide)) 0
                        have h63 : S 63 0 = bI (decide ((if mo = 2 then 2 else cr) = 2)) := by (rw [s63]; unfold rRqAl; by_cases c : mo = 2; rw [if_pos (Or.inr c), if_pos c]; rfl; rw [if_neg c]; by_cases d : cr = 2; rw [if_pos (Or.inl d), decide_eq_true d]; rfl; rw [if_neg (fun z => z.elim d c), decide_eq_false d]; rfl)
                        have h64 : (if mo = 2 then 2 else cr) = 2 ∨ S 64 0 = bI (decide ((if mo = 2 then 2 else cr) = 1)) := by (by_cases c : mo = 2; exact Or.inl (if_pos c); right; rw [s64, if_neg c]; by_cases d : cr = 1; rw [if_pos d, decide_eq_true d]; rfl; rw [if_neg d, decide_eq_false d]; rfl)
                        have hL7 : ∀ x ∈ gL Gi ch, gK Gi x = 7 := fun x hx => by (obtain ⟨j, j0, j1, rfl⟩ := rkAt_mem hCm.2.2.2.2.2.1.1 hx; obtain ⟨⟨_, _, _, _, _, _, hvv, -⟩, -⟩ := hCm.2.2.2.2.2.1.2 j j0 j1; exact hvv.1)
                        have gR : Fs R S := hFs.trans g1
                        have s00 : S 0 0 = R 0 0 := congrFun (gR 0 (by decide) (by decide)) 0
                        have h6768 := h67s
                        have hOS : ∀ i, 0 ≤ i → i < S 7 0 → (0 ≤ S 16 i.toNat ∧ S 16 i.toNat ≤ 3) ∧ (0 ≤ S 17 i.toNat ∧ S 17 i.toNat ≤ 1000) := fun i i0 i1 => by (rw [gR 16 (by decide) (by decide), gR 17 (by decide) (by decide)]; rw [gR 7 (by decide) (by decide)] at i1; exact hO i i0 i1)
                        replace g6 : 0 ≤ b ∧ b < S 7 0 := by (rw [g1 7 (by decide) (by decide)]; exact g6)
                        refine x_aload_n 175 C dX11_request_174 rfl rfl ?_
                        refine x_aload 177 C dX11_request_175 rfl rfl ?_
                        refine x_aload 179 C dX11_request_177 rfl rfl ?_
                        refine x_callV (As := [_, _]) 182 14 ((11 * (6 - i).toNat) - 11) ((482 * (6 - i).toNat) - 482) C vw_X11_245 iw_X11_takeHop sw_X11_takeHop (c_X11_takeHop hCm.1 hrqi h63 h64 ⟨rfl, hCm.2.2.2.2.1⟩ hL7 ⟨⟨hCm.2.2.2.2.2.1.1, hk5.2⟩, by rw [g2]; exact g5, by rw [g2, e28]; omega, by rw [g2, e28]; omega⟩ rfl g3 g4 (by rw [e28]; omega) h6768 hOS (by rw [s00]; exact hT) g6) dX11_request_179 rfl rfl rfl rfl rfl rfl bi0 ⟨Nat.le_of_ble_eq_true rfl, Nat.le_of_ble_eq_true rfl⟩ (Nat.le_of_ble_eq_true rfl) ⟨by omega, by omega⟩ (fun v G' hq => ?_)
                        obtain ⟨G9, hG9⟩ : ∃ z, z = G' := ⟨_, rfl⟩
                        subst hG9
                        obtain ⟨r9, rfl, hI9⟩ : ∃ r9 : Option Nat, v = some (va_rf r9) ∧ rkLp B G G9 (rRq0 R pg ad me mo cr hd) q131 ch (if mo = 2 then 2 else cr) ad  (i + 1) r9 := rkLp_step hGo (hFs.H iH) (hFs.A iA) (hFs.Ad iAd) (hFs.S iS) (by rw [e28]; omega) hq
                        refine x_as rfl rfl rfl ?_
                        refine x_astoreq 184 C dX11_request_182 rfl rfl rfl ?_
                        refine x_iinc 187 C dX11_request_184 rfl rfl rfl rfl ?_
                        refine x_goto 162 C dX11_request_187 (by decide) ?_
                        exact x_weak (by (try dsimp only); omega) (by (try dsimp only); omega) (ih (i + 1, G9, r9) hI9 (by (try dsimp only); omega))
                  · skip
                    refine x_iload 119 C dX11_request_117 rfl rfl ?_
                    refine x_iconst 120 C dX11_request_119 rfl ?_
                    refine x_icmp_ne 123 127 C dX11_request_120 rfl (by decide) (by first | exact hRw _ _ | assumption | exact ⟨by omega, by omega⟩ | exact hw.1 _ _ | omega) (by first | exact hRw _ _ | assumption | exact ⟨by omega, by omega⟩ | exact hw.1 _ _ | omega) (fun h120 => ?_) (fun h120 => ?_)
                    · skip
                      refine x_iload 129 C dX11_request_127 rfl rfl ?_
                      exact hJ129 _ (by first | rw [if_pos (show mo = 2 by omega)] | rw [if_neg (show ¬ mo = 2 by omega)])
                    · skip
                      refine x_iconst 124 C dX11_request_123 rfl ?_
                      refine x_goto 129 C dX11_request_124 (by decide) ?_
                      exact hJ129 _ (by first | rw [if_pos (show mo = 2 by omega)] | rw [if_neg (show ¬ mo = 2 by omega)])
                · skip
                  refine x_aload_n 82 C dX11_request_81 rfl rfl ?_
                  refine x_getO 85 1403 C fr_X11_22 dX11_request_82 rfl rfl rfl rfl (by assumption) (by assumption) ?_
                  refine x_callL (As := []) (ci := 2) 88 69 2963 C vw_X11_66 iw_Jx4a65c_size_8abf5 sw_Jx4a65c_size_8abf5 (c_sizev (by assumption) hl4) dX11_request_85 rfl rfl rfl rfl rfl (Or.inr (Or.inr ⟨rfl, (by assumption)⟩)) ⟨Nat.le_of_ble_eq_true rfl, Nat.le_of_ble_eq_true rfl⟩ (Nat.le_of_ble_eq_true rfl) ⟨Nat.le_refl _, Nat.le_refl _⟩ (fun v G' hq => ?_)
                  obtain ⟨rfl, hG9⟩ := hq
                  replace hG9 := hG9.symm
                  subst hG9
                  refine x_as rfl rfl rfl ?_
                  refine x_bipush 90 C dX11_request_88 rfl (by decide) ?_
                  refine x_icmp_ge 93 107 C dX11_request_90 rfl (by decide) (by first | exact hRw _ _ | assumption | exact ⟨by omega, by omega⟩ | exact hw.1 _ _ | omega) (by first | exact hRw _ _ | assumption | exact ⟨by omega, by omega⟩ | exact hw.1 _ _ | omega) (fun h90 => ?_) (fun h90 => ?_)
                  · skip
                    exact x_throw (text := "this request is not possible now") C hl htab tqS (by decide +kernel) dX11_request_107 dX11_request_110 dX11_request_111 dX11_request_113 dX11_request_116 ⟨Nat.le_of_ble_eq_true rfl, Nat.le_of_ble_eq_true rfl⟩ ⟨by omega, by omega⟩ ⟨rfl, rkX3 ((if_neg (by rw [rRqIs_t.mpr (by omega)]; decide)).trans ((if_neg (by rw [rRqOk_t.mpr (by omega)]; decide)).trans (if_pos (by first | exact Or.inl (by omega) | exact Or.inr ⟨by omega, n104.1⟩))))⟩
                  · skip
                    refine x_iload 95 C dX11_request_93 rfl rfl ?_
                    refine x_iconst 96 C dX11_request_95 rfl ?_
                    refine x_icmp_ne 99 117 C dX11_request_96 rfl (by decide) (by first | exact hRw _ _ | assumption | exact ⟨by omega, by omega⟩ | exact hw.1 _ _ | omega) (by first | exact hRw _ _ | assumption | exact ⟨by omega, by omega⟩ | exact hw.1 _ _ | omega) (fun h96 => ?_) (fun h96 => ?_)
                    · skip
                      exact hJ117 () ⟨by omega, fun z => absurd z (by omega)⟩
                    · skip
                      refine x_aload 101 C dX11_request_99 rfl rfl ?_
                      refine x_getPv 104 1001 C fr_X11_235 dX11_request_101 rfl rfl rfl rfl pk1 pk3 ?_
                      refine x_ifnull 107 117 C dX11_request_104 rfl (by decide) (fun h104 => ?_) (fun a104 h104 => ?_)
                      · skip
                        exact hJ117 () ⟨by omega, fun _ => rkOp_none h104⟩
                      · skip
                        have n104 := rkOp_some h104
                        exact x_throw (text := "this request is not possible now") C hl htab tqS (by decide +kernel) dX11_request_107 dX11_request_110 dX11_request_111 dX11_request_113 dX11_request_116 ⟨Nat.le_of_ble_eq_true rfl, Nat.le_of_ble_eq_true rfl⟩ ⟨by omega, by omega⟩ ⟨rfl, rkX3 ((if_neg (by rw [rRqIs_t.mpr (by omega)]; decide)).trans ((if_neg (by rw [rRqOk_t.mpr (by omega)]; decide)).trans (if_pos (by first | exact Or.inl (by omega) | exact Or.inr ⟨by omega, n104.1⟩))))⟩
              · skip
                refine x_iload 57 C dX11_request_55 rfl rfl ?_
                refine x_iconst 58 C dX11_request_57 rfl ?_
                refine x_icmp_eq 61 81 C dX11_request_58 rfl (by decide) (by first | exact hRw _ _ | assumption | exact ⟨by omega, by omega⟩ | exact hw.1 _ _ | omega) (by first | exact hRw _ _ | assumption | exact ⟨by omega, by omega⟩ | exact hw.1 _ _ | omega) (fun h58 => ?_) (fun h58 => ?_)
                · skip
                  exact hJ81 () (Or.inl (by omega))
                · skip
                  refine x_iload_n 62 C dX11_request_61 rfl rfl ?_
                  refine x_iconst 63 C dX11_request_62 rfl ?_
                  refine x_icmp_eq 66 71 C dX11_request_63 rfl (by decide) (by first | exact hRw _ _ | assumption | exact ⟨by omega, by omega⟩ | exact hw.1 _ _ | omega) (by first | exact hRw _ _ | assumption | exact ⟨by omega, by omega⟩ | exact hw.1 _ _ | omega) (fun h63 => ?_) (fun h63 => ?_)
                  · skip
                    exact x_throw (text := "method and header do not go with the mode") C hl htab tqA (by decide +kernel) dX11_request_71 dX11_request_74 dX11_request_75 dX11_request_77 dX11_request_80 ⟨Nat.le_of_ble_eq_true rfl, Nat.le_of_ble_eq_true rfl⟩ ⟨by omega, by omega⟩ ⟨rfl, rkX2 ((if_neg (by rw [rRqIs_t.mpr (by omega)]; decide)).trans (if_pos (rbf (fun z => absurd (rRqOk_t.mp z) (by omega)))))⟩
                  · skip
                    refine x_iload 68 C dX11_request_66 rfl rfl ?_
                    refine x_if_eq 71 81 C dX11_request_68 rfl (by decide) (by first | exact hRw _ _ | assumption | exact ⟨by omega, by omega⟩ | exact hw.1 _ _ | omega) (fun h68 => ?_) (fun h68 => ?_)
                    · skip
                      exact hJ81 () (Or.inr ⟨by omega, by omega⟩)
                    · skip
                      exact x_throw (text := "method and header do not go with the mode") C hl htab tqA (by decide +kernel) dX11_request_71 dX11_request_74 dX11_request_75 dX11_request_77 dX11_request_80 ⟨Nat.le_of_ble_eq_true rfl, Nat.le_of_ble_eq_true rfl⟩ ⟨by omega, by omega⟩ ⟨rfl, rkX2 ((if_neg (by rw [rRqIs_t.mpr (by omega)]; decide)).trans (if_pos (rbf (fun z => absurd (rRqOk_t.mp z) (by omega)))))⟩
            · skip
              exact x_throw (text := "no such method, mode or credentials") C hl htab tqA (by decide +kernel) dX11_request_45 dX11_request_48 dX11_request_49 dX11_request_51 dX11_request_54 ⟨Nat.le_of_ble_eq_true rfl, Nat.le_of_ble_eq_true rfl⟩ ⟨by omega, by omega⟩ ⟨rfl, rkX2 ((if_neg (by rw [rRqIs_t.mpr (by omega)]; decide)).trans (if_pos (rbf (fun z => absurd (rRqOk_t.mp z) (by omega)))))⟩
