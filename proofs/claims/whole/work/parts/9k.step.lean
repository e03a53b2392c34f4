/-! a request goes on, or ends -/
def rkRt (R0 S : RT) (n : Int) : Prop := Fs R0 S ∧ S 28 0 = R0 28 0 ∧ S 30 (R0 28 0).toNat = n
def rkGo (B : Nat → Nat) (G0 G : GT) (R0 S : RT) (rq ch : Nat) (cr k a b : Int) (av tv : Int → Int) : Prop :=
  rkCm B G0 G R0 S rq ch (R0 61 0) (R0 62 0) k av tv ∧ rkFl G R0 ch (R0 61 0) (R0 62 0) k av ∧ decide (¬ S 69 0 = 0) = rkWs R0 (R0 61 0) av tv k.toNat ∧
  rkRq G B rq (S 61 0) (S 62 0) cr (S 65 0) (S 66 0) (S 67 0) (S 68 0) ∧ (rGI R0 S k b ∧ (∀ f : Nat, 61 ≤ f → f ≤ 65 → S f = R0 f) ∧ (S 67 0 = 0 ∨ S 67 0 = 1) ∧ (S 68 0 = 0 ∨ S 68 0 = 1)) ∧ (0 ≤ k ∧ k ≤ 5) ∧ rGoF (6 - k).toNat k b S = rGoF 6 0 a R0
def rkDn (B : Nat → Nat) (G0 G : GT) (R0 S : RT) (rq ch : Nat) (n a t : Int) (av tv : Int → Int) : Prop :=
  rkCm B G0 G R0 S rq ch (R0 61 0) (R0 62 0) n av tv ∧ (1 ≤ n ∧ n ≤ 6) ∧ rkRt R0 S n ∧ (t, S) = rGoF 6 0 a R0 ∧
  t = rkJf R0 (R0 62 0) (R0 61 0) av tv (fun j => gI G 709 (rkAt G ch j)) (fun j => gI G 710 (rkAt G ch j)) (fun j => gI G 711 (rkAt G ch j)) n.toNat 0 false
section STEP
variable {G0 G G' : GT} {B : Nat → Nat} {R R0 S T0 : RT} {rq ch : Nat} {q cr k n a b m t : Int} {av tv : Int → Int} {v : Option Value}
theorem rkCr_F {u : Int} (h : Fs R S) {pg : Int} : rkCr S u m pg = rkCr R u m pg := by
  unfold rkCr
  rw [h.same, h 25 (by decide) (by decide)]
theorem rkMx_G (h : Fs R S) {md pg : Int} : rkMx S md m pg = rkMx R md m pg := by
  unfold rkMx
  rw [h 25 (by decide) (by decide), h 8 (by decide) (by decide)]
theorem rkWs_s (hk : 0 ≤ k) (h : decide (¬ R 69 0 = 0) = rkWs R0 (R0 61 0) av tv k.toNat) (hx : rCross R m = rkCr R0 (tv k) (av k) (R0 61 0)) : decide (¬ rWas R m = 0) = rkWs R0 (R0 61 0) av tv (k + 1).toNat := by
  rw [show (k + 1).toNat = k.toNat + 1 by omega, rkWs, ← h, show ((k.toNat : Nat) : Int) = k by omega, ← hx]
  unfold rWas
  by_cases c : R 69 0 = 0
  · rw [decide_eq_false (show ¬ ¬ R 69 0 = 0 from fun z => z c), Bool.false_or]
    by_cases d : rCross R m = true
    · rw [if_pos (Or.inr d), d]; rfl
    · rw [if_neg (fun z => z.elim (fun y => y c) d), rbf d]; rfl
  · rw [decide_eq_true (show ¬ R 69 0 = 0 from c), if_pos (Or.inl c)]; rfl
theorem rD5_68 (hX : RX R n) (hA : RA R) (hD : RAd R) (hS : RS R) (hm : 0 ≤ m ∧ m < R 7 0) (h32 : R 32 q.toNat = 0) : rD5 R m q 68 0 = 0 ∨ rD5 R m q 68 0 = 1 := by
  have e3 : rD3 R m 68 0 = rAfar R m := by
    unfold rD3
    split
    · rw [(rPfR_I (R := rD2 R m) (a := m) (w := rWhere R m) hX.2.1 hX.2.2.2.1.1).1 68 (by decide) (by decide)]
      unfold rD2; rw [u2_k (by decide), u2_s]
    · unfold rD2; rw [u2_k (by decide), u2_s]
  have e4 : rD4 R m 68 0 = rAfar R m := by
    unfold rD4
    rw [rCon_out (by decide) (by decide)]; exact e3
  have h01 : rAfar R m = 0 ∨ rAfar R m = 1 := by unfold rAfar; split <;> simp
  have f4 : ∀ f : Nat, 29 ≤ f → f ≤ 34 → rD4 R m f = R f := fun f h1 h2 => rD4_x hX (by omega) (by omega) (by omega) (by omega)
  unfold rD5
  split
  · obtain ⟨g1, g2, g3, -⟩ := rD4_I (a := m) hX
    obtain ⟨x1, x2, x3, x4, x5, -⟩ := hX
    have s := rSends_I (R := rD4 R m) (a := m) (w := rWhere R m) (q := q) (by rw [f4 32 (by decide) (by decide)]; exact h32) (by omega) (by have := g1.1; omega)
    have sF : Fs R (rSends (rD4 R m) m (rWhere R m) q) := rD4_Fq.Fs.trans s.Fs
    have t := rSets_I (R := rSends (rD4 R m) m (rWhere R m) q) (a := m) (w := rWhere R m) (sF.A hA) (sF.Ad hD) (sF.S hS) (s.C g1) (by rw [sF 7 (by decide) (by decide)]; exact hm) (by rw [s.1 34 (by decide) (by decide) (by decide) (by decide), f4 34 (by decide) (by decide)]; exact x3)
    rw [t.1 68 (by decide) (by decide), s.1 68 (by decide) (by decide) (by decide) (by decide), e4]
    exact h01
  · rw [e4]; exact h01
set_option maxHeartbeats 1000000 in
theorem rkGo_step (h : rkGo B G0 G R0 S rq ch cr k a b av tv) (hH : RH R0) (hA : RA R0) (hD : RAd R0) (hS : RS R0) (h28 : 0 ≤ R0 28 0 ∧ R0 28 0 ≤ 39) (hTo : rkTo G G' B S rq ch (gL G ch) cr b k v) :
    (∃ (b' : Int) (T : RT) (av' tv' : Int → Int), k ≤ 4 ∧ (0 ≤ b' ∧ b' < R0 7 0) ∧ v = some (va_rf (some (rkAt G' (B 2) b'))) ∧ rkGo B G0 G' R0 T rq ch cr (k + 1) a b' av' tv') ∨
    (∃ (t : Int) (T : RT) (av' tv' : Int → Int) (r : Option Nat), v = some (va_rf r) ∧ (r = none ∨ k = 5) ∧ rkDn B G0 G' R0 T rq ch (k + 1) a t av' tv') := by
  obtain ⟨hC, hFl, h69, hr, ⟨hG, h61, h67, h68⟩, hk, hgo⟩ := h
  have hG' := hG
  obtain ⟨g1, g2, g3, g4, g5, g6⟩ := hG'
  obtain ⟨hp, m, t, T, hv, hE, hn, hm, hcs⟩ := hTo
  have e7 : S 7 0 = R0 7 0 := congrFun (g1 7 (by decide) (by decide)) 0
  have e61 : S 61 0 = R0 61 0 := congrFun (h61 61 (by decide) (by decide)) 0
  have e62 : S 62 0 = R0 62 0 := congrFun (h61 62 (by decide) (by decide)) 0
  rw [g2] at hE
  have hq0 : 0 ≤ 6 * R0 28 0 + k := by omega
  have hgo2 := hgo
  rw [show (6 - k).toNat = (5 - k).toNat + 1 by omega, rGoF] at hgo2
  obtain ⟨pav, hpav⟩ : ∃ z : Int → Int, z = (fun j => if j = k then m else av j) := ⟨_, rfl⟩
  obtain ⟨ptv, hptv⟩ : ∃ z : Int → Int, z = (fun j => if j = k then S 67 0 else tv j) := ⟨_, rfl⟩
  have avk : pav k = m := by rw [hpav]; exact if_pos rfl
  have tvk : ptv k = S 67 0 := by rw [hptv]; exact if_pos rfl
  have avj : ∀ j, j < k → pav j = av j := fun j hj => by rw [hpav]; exact if_neg (by omega)
  have tvj : ∀ j, j < k → ptv j = tv j := fun j hj => by rw [hptv]; exact if_neg (by omega)
  have ws : rkWs R0 (R0 61 0) pav ptv k.toNat = rkWs R0 (R0 61 0) av tv k.toNat := rkWs_eq _ (fun j hj => ⟨avj j (by omega), tvj j (by omega)⟩)
  have emx : rkMx S (S 62 0) m (S 61 0) = rkMx R0 (R0 62 0) m (R0 61 0) := by rw [e61, e62]; exact rkMx_G g1
  -- the flags of the hops before
  have pre : ∀ (X : GT), (∀ j, 0 ≤ j → j < k → rkAt X ch j = rkAt G ch j ∧ gI X 709 (rkAt X ch j) = gI G 709 (rkAt G ch j) ∧ gI X 710 (rkAt X ch j) = gI G 710 (rkAt G ch j) ∧ gI X 711 (rkAt X ch j) = gI G 711 (rkAt G ch j)) → ∀ j, 0 ≤ j → j < k → (gI X 709 (rkAt X ch j) = 0 ∧ gI X 710 (rkAt X ch j) = 1 ∧ gI X 711 (rkAt X ch j) = 1) ∧ rkMx R0 (R0 62 0) (pav j) (R0 61 0) = false := fun X hX j j0 j1 => by
    obtain ⟨⟨f1, f2, f3⟩, f4⟩ := hFl j j0 j1
    obtain ⟨-, x1, x2, x3⟩ := hX j j0 j1
    rw [x1, x2, x3, avj j j1]
    exact ⟨⟨f1, f2, f3⟩, f4⟩
  have jd : ∀ (X : GT), (∀ j, 0 ≤ j → j < k → rkAt X ch j = rkAt G ch j ∧ gI X 709 (rkAt X ch j) = gI G 709 (rkAt G ch j) ∧ gI X 710 (rkAt X ch j) = gI G 710 (rkAt G ch j) ∧ gI X 711 (rkAt X ch j) = gI G 711 (rkAt G ch j)) → rkAt X ch k = hp →
      rkJf R0 (R0 62 0) (R0 61 0) pav ptv (fun j => gI X 709 (rkAt X ch j)) (fun j => gI X 710 (rkAt X ch j)) (fun j => gI X 711 (rkAt X ch j)) (k + 1).toNat 0 false = if rkMx R0 (R0 62 0) m (R0 61 0) = true then 2 else if ¬ gI X 709 hp = 0 then 5 else if gI X 710 hp = 0 then 3 else if k = 5 ∧ ¬ gI X 711 hp = 0 then 4 else if R0 62 0 = 0 ∧ rkWs R0 (R0 61 0) pav ptv (k + 1).toNat = true then 1 else 0 := fun X hX hXk => by
    have y := rkJf_pre (R := R0) (md := R0 62 0) (pg := R0 61 0) (av := pav) (tv := ptv) (n := k + 1) (k := k) (rf := fun j => gI X 709 (rkAt X ch j)) (lt := fun j => gI X 710 (rkAt X ch j)) (rd := fun j => gI X 711 (rkAt X ch j)) (pre X hX) hk.2 k.toNat (by omega) (by omega)
    rw [show ((k.toNat : Nat) : Int) = k by omega] at y
    rw [y, rkJf_s (by omega), avk]
    (try dsimp only)
    rw [hXk, show (k + 1 - (k + 1)).toNat = 0 by omega, rkJf, show (k + 1).toNat = k.toNat + 1 by omega, rkWs, show ((k.toNat : Nat) : Int) = k by omega, avk]
  rcases hcs with ⟨w1, w2, w3, w4, w5⟩ | ⟨w1, w2, w3, w4, w5⟩
  · -- mixed
    right
    rw [g2] at w4
    have hO : rkOw S T (6 * R0 28 0 + k) := by rw [w4]; exact rkOw_rec hq0
    have e7T : T 7 0 = R0 7 0 := by rw [w4, rRec_out (by decide)]; exact e7
    obtain ⟨c1, c2, c3⟩ := rkCm_hop hC hE hn hm hk.1 ⟨h28.1, g2⟩ ⟨e7, e7T⟩ hO
    rw [← hpav, ← hptv] at c1
    refine ⟨t, T, pav, ptv, none, by rw [hv, w3]; rfl, Or.inl rfl, c1, ⟨by omega, by omega⟩, ⟨by rw [w4]; exact g1.trans rRec_Fs, by rw [w4, rRec_out (by decide)]; exact g2, ?_⟩, ?_, ?_⟩
    · have y := rRec_30 (R := S) (a := b) (q := 6 * R0 28 0 + k)
      rw [g2, g5] at y
      rw [w4]; exact y
    · rw [← hgo2, if_pos w1, w3, w4, g2]
    · rw [jd G' c2 c3, if_pos (by rw [← emx]; exact w5)]
      exact w3
  · have wm : ¬ rMix S b = -1 := by omega
    obtain ⟨p1, p2, p3, p4, p5⟩ : Fs R0 (rG1 S b k) ∧ rG1 S b k 28 0 = R0 28 0 ∧ RQ (rG1 S b k) ∧ RX (rG1 S b k) (6 * R0 28 0 + k) ∧ rG1 S b k 30 (R0 28 0).toNat = k + 1 := rG1_I hG
    have hRA : rG1 S b k = rRec S m (6 * R0 28 0 + k) := by unfold rG1; rw [w1, g2]
    have h32 : rG1 S b k 32 (6 * R0 28 0 + k).toNat = 0 := by rw [hRA]; exact rRec_32
    have hmA : 0 ≤ m ∧ m < rG1 S b k 7 0 := by rw [p1 7 (by decide) (by decide)]; omega
    have hT : T = rDoesR (rG1 S b k) m (6 * R0 28 0 + k) := by rw [w3]; unfold rG2; rw [w1, g2]
    have hdi : Fq (rG1 S b k) T ∧ RX T (6 * R0 28 0 + k + 1) := by rw [hT]; exact rDoes_I (p1.H hH) (p1.A hA) (p1.Ad hD) (p1.S hS) p4 hmA h32
    have f1 : Fs R0 T := p1.trans hdi.1.Fs
    have e28 : T 28 0 = R0 28 0 := by rw [hdi.1 28 (by decide) (by decide) (by decide) (by decide)]; exact p2
    have e30 : T 30 (R0 28 0).toNat = k + 1 := by rw [hdi.1 30 (by decide) (by decide) (by decide) (by decide)]; exact p5
    have e7T : T 7 0 = R0 7 0 := congrFun (f1 7 (by decide) (by decide)) 0
    have hO1 : rkOw S (rG1 S b k) (6 * R0 28 0 + k) := by rw [hRA]; exact rkOw_rec hq0
    have hO : rkOw S T (6 * R0 28 0 + k) := rkOw_tr hO1 (by rw [hT]; exact rkOw_does p4 (p1.H hH) (p1.A hA) (p1.Ad hD) (p1.S hS) hmA h32 hq0) (Int.le_refl _) (by rw [p2, g2])
    have o1 : ∀ f : Nat, f ≠ 30 ∧ f ≠ 31 ∧ f ≠ 32 → rG1 S b k f = S f := fun f hf => by rw [hRA]; exact rRec_out hf
    have ecr : rCross (rG1 S b k) m = rkCr R0 (ptv k) (pav k) (R0 61 0) := by
      rw [tvk, avk, ← rkCr_x, o1 61 (by decide), o1 67 (by decide), e61]
      exact rkCr_F p1
    have was : decide (¬ rWas (rG1 S b k) m = 0) = rkWs R0 (R0 61 0) pav ptv (k + 1).toNat := rkWs_s hk.1 (by rw [o1 69 (by decide), h69, ws]) ecr
    rw [if_neg wm] at hgo2
    rw [w1] at hgo2
    rw [← w2, ← w3] at hgo2
    by_cases ct : t = -1 ∧ k ≤ 4
    · -- on
      left
      have w5' : gI G' 709 hp = 0 ∧ gI G' 710 hp = 1 ∧ gI G' 711 hp = 1 ∧ rkRq G' B rq (T 61 0) (T 62 0) cr (T 65 0) (rHow T m) (rTnt T m) (T 68 0) := by
        rcases w5 with ⟨-, y⟩ | ⟨-, -, y⟩ | ⟨-, -, -, y⟩ | ⟨y1, y2, y3, -, y4⟩
        · omega
        · omega
        · revert y; split <;> omega
        · exact ⟨y1, y2, y3, y4⟩
      obtain ⟨y1, y2, y3, y4⟩ := w5'
      obtain ⟨iH, iA, iAd, iHl, iP, iS, iR, iU⟩ := hE.1.1.2.2.2.2
      have z12 := rDoes_12 (R := rG1 S b k) (a := m) (by rw [← w2]; exact ct.1)
      rw [p1 12 (by decide) (by decide)] at z12
      have d12 := (hD m.toNat (by omega)).2.2.2.2.1
      have e12 : T 12 m.toNat = R0 12 m.toNat := congrFun (f1 12 (by decide) (by decide)) _
      have o2 : ∀ f : Nat, f ≠ 66 → f ≠ 67 → rNxt T m f = T f := fun f h1 h2 => funext fun j => by unfold rNxt; rw [u2_k h2, u2_k h1]
      have h01 : rTnt T m = 0 ∨ rTnt T m = 1 := by unfold rTnt; split <;> simp
      have hE2 : rkTe G G' B S (rNxt T m) rq ch hp (gL G ch) (6 * R0 28 0 + k) m := by
        refine rkTe_R hE (fun f hf => o2 f (by omega) (by omega)) ?_
        unfold rNxt
        exact InR_u (InR_u iR (rHow_in (iR _ _))) (by rcases h01 with z | z <;> rw [z] <;> exact ⟨by decide, by decide⟩)
      have hO2 : rkOw S (rNxt T m) (6 * R0 28 0 + k) := rkOw_tr hO (rkOw_rfl (p := 6 * R0 28 0 + k) (fun f h1 h2 => o2 f (by omega) (by omega))) (Int.le_refl _) (by rw [e28, g2])
      obtain ⟨c1, c2, c3⟩ := rkCm_hop hC hE2 hn hm hk.1 ⟨h28.1, g2⟩ ⟨e7, by rw [o2 7 (by decide) (by decide)]; exact e7T⟩ hO2
      rw [← hpav, ← hptv] at c1
      have hst : rStops (rG1 S b k) m = false := rbf (fun z => by have := rDoes_5 z; omega)
      have e69 : T 69 0 = rWas (rG1 S b k) m := by
        rw [hT, rDoesR_n hst]
        exact (rD5_I (p1.H hH) (p1.A hA) (p1.Ad hD) (p1.S hS) p4 hmA h32).2.2
      refine ⟨T 12 m.toNat, rNxt T m, pav, ptv, ct.2, by omega, by rw [hv, if_pos ct.1], c1, fun j j0 j1 => ?_, ?_, ?_, ⟨rNxt_I f1 e28 (hdi.1.Q p3) (by rw [← Int.add_assoc]; exact hdi.2) e30 (by omega), ?_, ?_, ?_⟩, ⟨by omega, by omega⟩, ?_⟩
      · by_cases c : j = k
        · subst c
          rw [c3, avk]
          exact ⟨⟨y1, y2, y3⟩, by rw [← emx]; exact w4⟩
        · exact pre G' c2 j j0 (by omega)
      · rw [o2 69 (by decide) (by decide), e69]; exact was
      · rw [o2 61 (by decide) (by decide), o2 62 (by decide) (by decide), o2 65 (by decide) (by decide), o2 68 (by decide) (by decide), show rNxt T m 66 0 = rHow T m by unfold rNxt; rw [u2_k (by decide), u2_s], show rNxt T m 67 0 = rTnt T m by unfold rNxt; rw [u2_s]]
        exact y4
      · intro f h1 h2
        rw [o2 f (by omega) (by omega), hdi.1 f (by omega) (by omega) (by omega) (by omega), o1 f (by omega), h61 f h1 h2]
      · rw [show rNxt T m 67 0 = rTnt T m by unfold rNxt; rw [u2_s]]; exact h01
      · rw [o2 68 (by decide) (by decide), hT, rDoesR_n hst]
        exact rD5_68 p4 (p1.A hA) (p1.Ad hD) (p1.S hS) hmA h32
      · rw [← hgo2, if_neg (fun z => z ct.1), if_neg (by omega), show (6 - (k + 1)).toNat = (5 - k).toNat by omega]
    · -- the end
      right
      obtain ⟨c1, c2, c3⟩ := rkCm_hop hC hE hn hm hk.1 ⟨h28.1, g2⟩ ⟨e7, e7T⟩ hO
      rw [← hpav, ← hptv] at c1
      have hj := jd G' c2 c3
      rw [if_neg (by rw [← emx, w4]; decide)] at hj
      rcases w5 with ⟨y1, y⟩ | ⟨y1, y2, y⟩ | ⟨y1, y2, y3, y⟩ | ⟨y1, y2, y3, y, -⟩
      · rw [if_pos (by omega)] at hj
        exact ⟨t, T, pav, ptv, none, by rw [hv, if_neg (by omega)], Or.inl rfl, c1, ⟨by omega, by omega⟩, ⟨f1, e28, e30⟩, by rw [← hgo2, if_pos (by omega)], by rw [hj]; exact y⟩
      · rw [if_neg (by omega), if_pos y2] at hj
        exact ⟨t, T, pav, ptv, none, by rw [hv, if_neg (by omega)], Or.inl rfl, c1, ⟨by omega, by omega⟩, ⟨f1, e28, e30⟩, by rw [← hgo2, if_pos (by omega)], by rw [hj]; exact y⟩
      · rw [if_neg (by omega), if_neg (by omega), if_neg (by omega), ← was] at hj
        have ht : ¬ t = -1 := by rw [y]; split <;> decide
        refine ⟨t, T, pav, ptv, none, by rw [hv, if_neg ht], Or.inl rfl, c1, ⟨by omega, by omega⟩, ⟨f1, e28, e30⟩, by rw [← hgo2, if_pos ht], ?_⟩
        rw [hj, y, e62]
        by_cases c : R0 62 0 = 0 ∧ ¬ rWas (rG1 S b k) m = 0
        · rw [if_pos c, if_pos ⟨c.1, decide_eq_true c.2⟩]
        · rw [if_neg c, if_neg (fun z => c ⟨z.1, of_decide_eq_true z.2⟩)]
      · have k5 : k = 5 := by omega
        rw [if_neg (by omega), if_neg (by omega), if_pos ⟨k5, by omega⟩] at hj
        exact ⟨4, T, pav, ptv, some _, by rw [hv, if_pos y], Or.inr k5, c1, ⟨by omega, by omega⟩, ⟨f1, e28, e30⟩, by rw [← hgo2, if_neg (fun z => z y), if_pos k5], hj.symm⟩
end STEP
