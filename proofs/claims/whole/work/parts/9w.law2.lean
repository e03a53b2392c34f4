/-! between two calls of the law: values in range, the world kept, arguments, comparisons -/
theorem mx_mono {E : EV} {l : Launch} {y : MethodName} {cc : ByteArray} {nL : Nat} {ret : Option FieldType} {fr lo mc ms : Nat} {av : List Value} {G : GT} {post post' : Option Value → GT → Prop} {xp : String → GT → Prop} (h : MX E l y cc nL ret fr lo mc ms av G post xp) (hq : ∀ v G', post v G' → post' v G') : MX E l y cc nL ret fr lo mc ms av G post' xp := by
  unfold MX vx_Met MetFree at h ⊢
  intro p e a1 a2 a3 s m args below b1 b2 b3 b4
  obtain ⟨n, o, c1, c2, c3, hh⟩ := h p e a1 a2 a3 s m args below b1 b2 b3 b4
  refine ⟨n, o, c1, c2, c3, ?_⟩
  rcases hh with ⟨⟨⟨v, G', d1, d2, d3⟩, c5⟩, c6⟩ | hx
  · exact Or.inl ⟨⟨⟨v, G', d1, d2, hq v G' d3⟩, c5⟩, c6⟩
  · exact Or.inr hx
section RNG
variable {R : RT} {a b c d r w x n : Int}
theorem InR_m10 : InR (x % 10) := ⟨by omega, by omega⟩
theorem InR_zw (hr : ∀ k j, InR (R k j)) : ∀ k j, InR ((rZw R w).1 k j) := by
  unfold rZw
  split
  · exact InR_u (InR_u hr InR_m10) InR_m10
  · split
    · exact InR_u hr InR_m10
    · exact hr
theorem InR_z3 : ∀ (m : Nat) (r : Int) (z : RT × Int), (∀ k j, InR (z.1 k j)) → ∀ k j, InR ((rZ3 m r z).1 k j) := by
  intro m
  induction m with
  | zero => intro r z h; exact h
  | succ m ih =>
    intro r z h
    rw [rZ3]
    split
    · exact ih r _ (InR_u h InR_m10)
    · split
      · exact ih r _ h
      · exact ih r _ h
theorem InR_rsl (hr : ∀ k j, InR (R k j)) : ∀ k j, InR (rRslS R a r k j) := by
  unfold rRslS
  split
  · unfold rRsdR rZ
    refine InR_z3 _ _ _ ?_
    unfold rZ0
    split
    · exact InR_zw hr
    · exact hr
  · exact hr
theorem InR_0 : InR 0 := ⟨by decide, by decide⟩
theorem InR_if {P : Prop} [Decidable P] (h : ¬ P → InR x) : InR (if P then 0 else x) := by
  split
  · exact InR_0
  · exact h (by assumption)
theorem iv_host (hr : ∀ k j, InR (R k j)) (hH : RH R) : InR (rHost R a w) := InR_if (fun _ => by
  split
  · exact hr 3 0
  · have h3 := hH.1
    have : -1 ≤ rHFound R a w ∧ rHFound R a w < 17 := by
      unfold rHFound
      split
      · have := rHostOf_in R a w (R 3 0).toNat
        omega
      · omega
    exact ⟨by omega, by omega⟩)
theorem iv_tog : rTog R x = 0 ∨ rTog R x = 1 := by
  unfold rTog
  split
  · exact Or.inl rfl
  · split
    · exact Or.inr rfl
    · exact Or.inl rfl
theorem iv_site (hH : RH R) : InR (rSite R x) := InR_if (fun h => by
  have hs : rIsHost R x = true := by
    unfold rTogC at h
    by_cases c1 : rIsHost R x = true
    · exact c1
    · rw [if_neg c1] at h; exact absurd (by decide) h
  have h1 := rIsH_t.mp hs
  have h2 := rSiteOf_in hH h1.1 (by omega)
  have := hH.1
  exact ⟨by omega, by omega⟩)
theorem iv_addr (hA : RA R) : InR (rAddr R a b c d) := InR_if (fun _ => by
  unfold rAFound
  split
  · have := rTells_in hA a b c d
    exact ⟨by omega, by omega⟩
  · exact ⟨by decide, by decide⟩)
theorem iv_rsl (hA : RA R) : InR (rRsl R a r) := InR_if (fun _ => by
  have := rRslV_in (a := a) (r := r) hA
  exact ⟨by omega, by omega⟩)
theorem iv_text (hH : RH R) (hl : RHl R) (hD : RAd R) : InR (rTx R a x) := by
  unfold rTx
  split
  · exact ⟨by decide, by decide⟩
  · rename_i h
    have h1 : rIsAddress R a = true := by
      unfold rTxC at h
      by_cases c1 : (rIsAddress R a && decide (¬ rSign R a x = 32)) = true
      · exact ((Bool.and_eq_true _ _).mp c1).1
      · rw [if_neg c1] at h; exact absurd (by decide) h
    have h2 := rIsA_t.mp h1
    have h3 := rSign_in (a := a) (k := x) hH hl (hD a.toNat (by omega)).2.1
    exact ⟨by omega, by omega⟩
theorem iv_page (hr : ∀ k j, InR (R k j)) : InR (rPage R a b c) := InR_if (fun _ => hr 24 0)
theorem iv_pass (h : 0 ≤ R 0 0 ∧ R 0 0 ≤ 900000000) : InR (rPass R x) := InR_if (fun h2 => by
  unfold rPassC at h2
  by_cases c1 : rLies x 1 1000 = true
  · have := rLs_t.mp c1
    exact ⟨by omega, by omega⟩
  · rw [if_neg c1] at h2; exact absurd (by decide) h2)
theorem iv_hops (hr : ∀ k j, InR (R k j)) : InR (rHops R a) := InR_if (fun _ => hr 30 _)
theorem iv_judged (hr : ∀ k j, InR (R k j)) : InR (rJud R a) := InR_if (fun _ => hr 29 _)
theorem iv_hop (hr : ∀ k j, InR (R k j)) : InR (rHop R a b) := InR_if (fun _ => hr 31 _)
theorem iv_sent (hr : ∀ k j, InR (R k j)) : InR (rSent R a b c) := InR_if (fun _ => by
  split
  · exact hr 33 _
  · exact ⟨by decide, by decide⟩)
theorem iv_cookie (hH : RH R) (hC : RC R) : InR (rCk R a) := InR_if (fun h => by
  have h1 : rLies a 0 (R 34 0 - 1) = true := by
    unfold rCkC at h
    by_cases c1 : rLies a 0 (R 34 0 - 1) = true
    · exact c1
    · rw [if_neg c1] at h; exact absurd (by decide) h
  have h2 := rLs_t.mp h1
  have h3 := hC.2 a.toNat (by omega)
  have h4 := hH.1
  split <;> exact ⟨by omega, by omega⟩)
theorem iv_count (hr : ∀ k j, InR (R k j)) : InR (rCnt R a) := InR_if (fun _ => by
  split
  · exact hr 45 0
  · split
    · exact hr 44 0
    · exact hr 53 0)
theorem ic_host : 0 ≤ rHCode R a w ∧ rHCode R a w ≤ 3 := by unfold rHCode; (repeat (first | omega | split))
theorem ic_tog : 0 ≤ rTogC R a ∧ rTogC R a ≤ 1 := by unfold rTogC; (repeat (first | omega | split))
theorem ic_addr : 0 ≤ rACode R a b c d ∧ rACode R a b c d ≤ 3 := by unfold rACode; (repeat (first | omega | split))
theorem ic_rsl : 0 ≤ rRslC R a r ∧ rRslC R a r ≤ 3 := by unfold rRslC; (repeat (first | omega | split))
theorem ic_text : 0 ≤ rTxC R a x ∧ rTxC R a x ≤ 1 := by unfold rTxC; (repeat (first | omega | split))
theorem ic_page : 0 ≤ rPageC R a b c ∧ rPageC R a b c ≤ 3 := by unfold rPageC; (repeat (first | omega | split))
theorem ic_pass : 0 ≤ rPassC x ∧ rPassC x ≤ 1 := by unfold rPassC; (repeat (first | omega | split))
theorem ic_req : 0 ≤ rReqC R a ∧ rReqC R a ≤ 1 := by unfold rReqC; (repeat (first | omega | split))
theorem ic_hop : 0 ≤ rHopC R a b ∧ rHopC R a b ≤ 1 := by unfold rHopC; (repeat (first | omega | split))
theorem ic_sent : 0 ≤ rSentC R a b c ∧ rSentC R a b c ≤ 1 := by unfold rSentC; (repeat (first | omega | split))
theorem ic_cookie : 0 ≤ rCkC R a ∧ rCkC R a ≤ 1 := by unfold rCkC; (repeat (first | omega | split))
theorem ic_count : 0 ≤ rCntC a ∧ rCntC a ≤ 1 := by unfold rCntC; (repeat (first | omega | split))
theorem ic_red : 0 ≤ rRedC R a b c ∧ rRedC R a b c ≤ 2 := by unfold rRedC; (repeat (first | omega | split))
theorem ic_all {t : Int} : 0 ≤ rAllC R a w c t ∧ rAllC R a w c t ≤ 2 := by unfold rAllC; (repeat (first | omega | split))
theorem ic_set {v f t : Int} : 0 ≤ rSetC R a n v d w f t ∧ rSetC R a n v d w f t ≤ 2 := by unfold rSetC; (repeat (first | omega | split))
theorem ic_rq {pg ad me mo cr hd : Int} : 0 ≤ rRqC R pg ad me mo cr hd ∧ rRqC R pg ad me mo cr hd ≤ 3 := by unfold rRqC; (repeat (first | omega | split))
theorem rGoF_71 (hH : RH R) (hA : RA R) (hD : RAd R) (hS : RS R) (h28 : 0 ≤ R 28 0 ∧ R 28 0 < 40) : ∀ (n : Nat) (k a : Int) (S : RT), rGI R S k a → k + n = 6 → 0 ≤ k → (rGoF n k a S).2 71 = S 71 := by
  intro n
  induction n with
  | zero => intro k a S h hk h0; rfl
  | succ n ih =>
    intro k a S h hk h0
    have hs := h
    obtain ⟨g1, g2, g3, g4, g5, g6⟩ := hs
    have e7 : S 7 0 = R 7 0 := congrFun (g1 7 (by decide) (by decide)) 0
    rw [rGoF]
    by_cases c1 : rMix S a = -1
    · rw [if_pos c1]
      exact (show rRec S a (6 * S 28 0 + k) 71 = S 71 from rRec_out (by decide))
    · rw [if_neg c1]
      have hmx := rMix_in (a := a) (g1.A hA) (by rw [e7]; exact g6)
      obtain ⟨p1, p2, p3, p4, p5⟩ : Fs R (rG1 S a k) ∧ rG1 S a k 28 0 = R 28 0 ∧ RQ (rG1 S a k) ∧ RX (rG1 S a k) (6 * R 28 0 + k) ∧ rG1 S a k 30 (R 28 0).toNat = k + 1 := rG1_I h
      have h32 : rG1 S a k 32 (6 * S 28 0 + k).toNat = 0 := rRec_32
      have hdi : Fq (rG1 S a k) (rG2 S a k) ∧ RX (rG2 S a k) (6 * R 28 0 + k + 1) := rDoes_I (p1.H hH) (p1.A hA) (p1.Ad hD) (p1.S hS) p4 (by rw [p1 7 (by decide) (by decide)]; omega) h32
      have f1 : Fs R (rG2 S a k) := p1.trans hdi.1.Fs
      have e28 : rG2 S a k 28 0 = R 28 0 := by rw [hdi.1 28 (by decide) (by decide) (by decide) (by decide)]; exact p2
      have e30 : rG2 S a k 30 (R 28 0).toNat = k + 1 := by rw [hdi.1 30 (by decide) (by decide) (by decide) (by decide)]; exact p5
      have e71 : rG2 S a k 71 = S 71 := (hdi.1 71 (Or.inr (by decide)) (by decide) (by decide) (by decide)).trans (show rRec S (rMix S a) (6 * S 28 0 + k) 71 = S 71 from rRec_out (by decide))
      by_cases c2 : rDoes (rG1 S a k) (rMix S a) = -1
      · rw [if_neg (fun z => z c2)]
        by_cases c3 : k = 5
        · rw [if_pos c3]
          exact e71
        · rw [if_neg c3]
          have z := rDoes_12 c2
          rw [p1 12 (by decide) (by decide)] at z
          have d := hD (rMix S a).toNat (by omega)
          refine (ih _ _ _ (rNxt_I f1 e28 (hdi.1.Q p3) (by rw [← Int.add_assoc]; exact hdi.2) e30 ?_) (by omega) (by omega)).trans ?_
          · rw [f1 12 (by decide) (by decide)]
            omega
          · unfold rNxt
            funext j
            rw [u2_k (by decide), u2_k (by decide)]
            exact congrFun e71 j
      · rw [if_pos c2]
        exact e71
end RNG
section LF3
variable {G G' G1 : GT} {B : Nat → Nat} {R R' : RT} {n : Int} {o out : Nat}
/-- a call that only looks -/
theorem lf_look {c : Int} (hZ : rkZ G B R) (hp : rkPs G B R) (hI : rkInv R n) (hc : 0 ≤ c ∧ c ≤ 3) : rF R c 71 0 = c ∧ (¬ c = 0 → rkRel G B (n + 1) (rF R c) G) ∧ ∀ G', (c = 0 ∧ G' = G) → rkRel G B (n + 1) (rF R c) G' :=
  ⟨rF_71, fun _ => rkRel_F hZ hp hI ⟨by omega, by omega⟩, fun G' h => by
    obtain ⟨_, rfl⟩ := h
    exact rkRel_F hZ hp hI ⟨by omega, by omega⟩⟩
theorem rq_I {pg ad me mo cr hd : Int} (hZ : rkZ G B R) (hI : rkInv R n) (h0 : ¬ 0 < rRqC R pg ad me mo cr hd) : (-1 ≤ rGoes2 (rRq0 R pg ad me mo cr hd) ad ∧ rGoes2 (rRq0 R pg ad me mo cr hd) ad ≤ 5) ∧ rGoesR (rRq0 R pg ad me mo cr hd) ad 71 0 = rRqC R pg ad me mo cr hd := by
  obtain ⟨k1, k2, k3, k4, k5, k6⟩ := rRqC_0 h0
  obtain ⟨iH, iA, iAd, iHl, iP, iS, ir, iU⟩ := hZ.1.2.2.2.2
  have hX : RX R (6 * R 28 0) := hI.1
  have h28 := hI.2.1.1
  have e28 : (rRq0 R pg ad me mo cr hd) 28 0 = R 28 0 := by rw [rRq0_out (by decide)]
  have hgi := rRq0_I (me := me) (mo := mo) (cr := cr) (hd := hd) hX k1 k3 k4 k2
  have hgo := rGoF_I (rRq0_Fs.H iH) (rRq0_Fs.A iA) (rRq0_Fs.Ad iAd) (rRq0_Fs.S iS) (by rw [e28]; omega) 6 0 ad (rRq0 R pg ad me mo cr hd) hgi (by decide) (by decide)
  have h71 := rGoF_71 (rRq0_Fs.H iH) (rRq0_Fs.A iA) (rRq0_Fs.Ad iAd) (rRq0_Fs.S iS) (by rw [e28]; omega) 6 0 ad (rRq0 R pg ad me mo cr hd) hgi (by decide) (by decide)
  refine ⟨hgo.2.2.2.2, (congrFun h71 0).trans ?_⟩
  unfold rRq0 rRqN
  repeat rw [u2_k (by decide)]
  exact u2_s
theorem iv_rq {pg ad me mo cr hd : Int} (hZ : rkZ G B R) (hI : rkInv R n) : InR (rRq R pg ad me mo cr hd) := InR_if (fun h => by
  have := (rq_I hZ hI h).1
  exact ⟨by omega, by omega⟩)
theorem lf_rq {pg ad me mo cr hd : Int} (hZ : rkZ G B R) (hp : rkPs G B R) (hI : rkInv R n) : rRqR R pg ad me mo cr hd 71 0 = rRqC R pg ad me mo cr hd ∧ (¬ rRqC R pg ad me mo cr hd = 0 → rkRel G B (n + 1) (rRqR R pg ad me mo cr hd) G) ∧ ∀ G', (rRqC R pg ad me mo cr hd = 0 ∧ (rkZ G' B (rRqR R pg ad me mo cr hd) ∧ rkPs G' B (rRqR R pg ad me mo cr hd) ∧ rkKp B G G' ∧ RR (rRqR R pg ad me mo cr hd)) ∧ RX (rRqR R pg ad me mo cr hd) (6 * rRqR R pg ad me mo cr hd 28 0) ∧ Fs R (rRqR R pg ad me mo cr hd)) → rkRel G B (n + 1) (rRqR R pg ad me mo cr hd) G' := by
  have hc := ic_rq (R := R) (pg := pg) (ad := ad) (me := me) (mo := mo) (cr := cr) (hd := hd)
  refine ⟨?_, fun h0 => ?_, fun G' hh => ?_⟩
  · by_cases h : 0 < rRqC R pg ad me mo cr hd
    · rw [show rRqR R pg ad me mo cr hd = rF R (rRqC R pg ad me mo cr hd) from if_pos h]
      exact rF_71
    · rw [show rRqR R pg ad me mo cr hd = u2 (u2 (rGoesR (rRq0 R pg ad me mo cr hd) ad) 29 (R 28 0).toNat (rGoes2 (rRq0 R pg ad me mo cr hd) ad)) 28 0 (R 28 0 + 1) from if_neg h, u2_k (by decide), u2_k (by decide)]
      exact (rq_I hZ hI h).2
  · rw [show rRqR R pg ad me mo cr hd = rF R (rRqC R pg ad me mo cr hd) from if_pos (by omega)]
    exact rkRel_F hZ hp hI ⟨by omega, by omega⟩
  · obtain ⟨h0, ⟨z1, z2, z3, z4⟩, z5, z6⟩ := hh
    refine ⟨z3, z1, z2, z5, z4, rkE0_rows hI.2.2.1 (fun f hf => z6 f (by omega) (by omega)), fun j => ?_, ?_⟩
    · rw [z6 16 (by decide) (by decide), z6 17 (by decide) (by decide)]; exact hI.2.2.2.1 j
    · rw [z6 0 (by decide) (by decide)]; have := hI.2.2.2.2; omega
/-- the row of one long number is nobody's else -/
theorem rkKp_A {v : Int} (hk : gK G out = 26) : rkKp B G (sA G out 0 v) := ⟨fun _ _ => rfl, ⟨fun _ _ _ _ => rfl, fun _ _ _ _ => rfl⟩, fun _ _ _ => rfl, fun x _ h => by
  funext j
  exact u2_k (f := gA G) (fun z => h (by rw [z]; exact hk)), rfl, fun _ _ _ => rfl⟩
theorem rkZ_A {v : Int} (hZ : rkZ G B R) : rkZ (sA G out 0 v) B R := rkZ_fr (ks := [708]) (ls := []) hZ (fr_sA List.mem_cons_self fr_rfl) (by decide) (fun x z => by cases z)
theorem RM_k (h : RM G o) (hk : rkKp B G G') : RM G' o := by
  have e : ∀ j, ra G' o j = ra G o j := fun j => by unfold ra; rw [hk.2.2.2.2.2 _ o (by omega)]
  refine ⟨(hk.1 o (by rw [h.1]; decide)).trans h.1, fun j hj hs => ?_⟩
  obtain ⟨a1, a2⟩ := h.2 j hj hs
  rw [e j]
  exact ⟨(hk.2.2.2.2.2 _ o (by omega)).trans a1, (hk.1 _ (by rw [a2]; omega)).trans a2⟩
/-- the state after a call of the program -/
theorem rkLw_go {code val : Int} (h : rkLw G B o out n) (hq : (code = 0 ∧ ∃ G1, rkRel G B (n + 1) R' G1 ∧ G' = sA G1 out 0 val) ∨ (¬ code = 0 ∧ G' = G)) (hf : ¬ code = 0 → rkRel G B (n + 1) R' G) : rkLw (wR G' R') B o out (n + 1) ∧ RM G' o ∧ gK G' (B 0) = 14 ∧ gK G' out = 26 ∧ gR G' = gR G ∧ (code = 0 → gA G' out 0 = val) := by
  obtain ⟨h1, h2, h3, h4, h5⟩ := h
  rcases hq with ⟨c0, G1, ⟨k1, k2, k3, k4⟩, rfl⟩ | ⟨c0, rfl⟩
  · have o1 : gK G1 out = 26 := (k1.1 out (by rw [h2]; decide)).trans h2
    have kp := rkKp_A (B := B) (v := val) o1
    have hm := RM_k (RM_k h1 k1) kp
    have hz : rkZ (sA G1 out 0 val) B R' := rkZ_A k2
    have hs : rkPs (sA G1 out 0 val) B R' := rkPs_s k2 k3 kp rfl rfl rfl (fun _ _ => rfl)
    exact ⟨⟨hm, o1, hz, hs, k4⟩, hm, hz.1.1.1.1, o1, (show gR G1 = gR G from k1.2.2.2.2.1), fun _ => u2_s⟩
  · obtain ⟨k1, k2, k3, k4⟩ := hf c0
    exact ⟨⟨h1, h2, k2, k3, k4⟩, h1, h3.1.1.1.1, h2, rfl, fun z => absurd z c0⟩
theorem rkLw_gv {code : Int} (h : rkLw G B o out n) (hq : (code = 0 ∧ rkRel G B (n + 1) R' G') ∨ (¬ code = 0 ∧ G' = G)) (hf : ¬ code = 0 → rkRel G B (n + 1) R' G) : rkLw (wR G' R') B o out (n + 1) ∧ RM G' o ∧ gK G' (B 0) = 14 ∧ gR G' = gR G := by
  obtain ⟨h1, h2, h3, h4, h5⟩ := h
  have key : ∀ G1, rkRel G B (n + 1) R' G1 → rkLw (wR G1 R') B o out (n + 1) ∧ RM G1 o ∧ gK G1 (B 0) = 14 ∧ gR G1 = gR G := fun G1 k => by
    obtain ⟨k1, k2, k3, k4⟩ := k
    have hm : RM G1 o := RM_k h1 k1
    exact ⟨⟨hm, (k1.1 out (by rw [h2]; decide)).trans h2, k2, k3, k4⟩, hm, k2.1.1.1.1, k1.2.2.2.2.1⟩
  rcases hq with ⟨c0, k⟩ | ⟨c0, rfl⟩
  · exact key _ k
  · exact key _ (hf c0)
end LF3
