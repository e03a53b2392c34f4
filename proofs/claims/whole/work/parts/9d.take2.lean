/-! the pool or the jar changes in a hop -/
section TAKE2
variable {ks ls L0 : List Nat} {G0 G G' : GT} {B : Nat → Nat} {R T0 S : RT} {rq ch hp ar : Nat} {cr m q n : Int}
/-- the pool, at later turns -/
theorem rkQ_turn (hB : rkB G B) (hQ : rkQ G B R) (h : rkFr ks ls G G') (hks : ∀ k ∈ ks, (k < 400 ∨ 404 ≤ k) ∧ k ≠ 1101) (hls : B 9 ∉ ls) (hS : ∀ f : Nat, (44 ≤ f ∧ f ≤ 52) ∨ f = 0 → S f = R f) (h1 : R 1 0 ≤ S 1 0) : rkQ G' B S := by
  obtain ⟨q, p, c⟩ := rkQ_fr hB hQ h hks hls (S := R) (fun _ _ => rfl)
  refine ⟨?_, ?_, by rw [hS 45 (by omega)]; exact c⟩
  · unfold rkQl rkCn
    unfold rkQl rkCn at q
    rw [hS 44 (by omega), hS 46 (by omega), hS 47 (by omega), hS 48 (by omega), hS 49 (by omega), hS 50 (by omega), hS 51 (by omega), hS 52 (by omega)]
    exact q
  · obtain ⟨p1, p2, p3⟩ := p
    refine ⟨by rw [hS 44 (by omega)]; exact p1, fun k hk => ?_, ?_⟩
    · rw [hS 44 (by omega)] at hk
      obtain ⟨s1, s2, s3, s4, s5, s6, s7⟩ := p2 k hk
      unfold rkSl
      rw [hS 46 (by omega), hS 47 (by omega), hS 48 (by omega), hS 49 (by omega), hS 50 (by omega), hS 51 (by omega), hS 52 (by omega), hS 0 (by omega)]
      exact ⟨s1, s2, s3, s4, s5, s6, by omega⟩
    · rw [hS 44 (by omega), hS 46 (by omega), hS 47 (by omega), hS 48 (by omega), hS 49 (by omega), hS 50 (by omega)]
      exact p3
theorem rkZ_pool (hZ : rkZ G B R) (hf : rkFr ks ls G G') (hks : ∀ k ∈ ks, k = 403 ∨ k = 1101 ∨ k = 1409) (hls : ∀ x ∈ ls, x = B 9 ∨ x = B 5) (hS : ∀ f : Nat, f ≠ 1 → (f < 44 ∨ 60 < f) → S f = R f) (h1 : R 1 0 ≤ S 1 0) (hr : ∀ k j, InR (S k j)) (hQ : rkQ G' B S) (hF : rkF G' B S) (h49 : gI G' 1409 (B 0) = S 53 0) : rkZ G' B S := by
  obtain ⟨hW, hC, hJ, -, -, s1, s2, s3⟩ := hZ
  have hB := hW.1
  obtain ⟨⟨b0, -, -⟩, ⟨k1, k2, k3, k4, k5, k8, k9⟩, -, hne⟩ := id hB
  obtain ⟨n12, n13, n14, n15, n18, n19, n23, n24, n25, n28, n29, n34, n35, n38, n39, n45, n48, n49, n58, n59, n89⟩ := hne
  have b00 : gK G (B 0) ≠ 0 := by rw [b0]; decide
  have hW1 := rkW_fr hW hf (fun k z => by rcases hks k z with rfl | rfl | rfl <;> rfl) ⟨fun z => by have := hls _ z; omega, fun z => by have := hls _ z; omega, fun z => by have := hls _ z; omega⟩ (fun x z => by rcases hls x z with rfl | rfl <;> omega)
  refine ⟨rkW_R hW1 (fun f a b => hS f b (by omega)) hr, rkC_R (rkC_fr hB hC hf (fun k z => by rcases hks k z with rfl | rfl | rfl <;> rfl) (fun z => by have := hls _ z; omega) (fun z => by have := hls _ z; omega)) (fun f a b => hS f (by omega) (by omega)) h1, ⟨?_, ?_, ?_, hr⟩, hQ, hF, ?_, ?_, h49⟩
  · unfold RC
    rw [hS 34 (by decide) (by decide), hS 37 (by decide) (by decide), hS 3 (by decide) (by decide), hS 39 (by decide) (by decide), hS 35 (by decide) (by decide), hS 36 (by decide) (by decide)]
    exact hJ.1
  · unfold rkCd
    rw [hS 34 (by decide) (by decide), hS 43 (by decide) (by decide)]
    exact hJ.2.1
  · unfold rkCu
    rw [hS 34 (by decide) (by decide), hS 35 (by decide) (by decide), hS 37 (by decide) (by decide), hS 39 (by decide) (by decide), hS 41 (by decide) (by decide)]
    exact hJ.2.2.1
  · rw [hS 2 (by decide) (by decide)]
    exact ((hf.2.1 1407 (B 0) b00 (fun z => by have := hks _ z; omega)).1).trans s1
  · rw [hS 0 (by decide) (by decide)]
    exact ((hf.2.1 1408 (B 0) b00 (fun z => by have := hks _ z; omega)).1).trans s2
theorem rkZ_jar (hZ : rkZ G B R) (hf : rkFr ks ls G G') (hks : ∀ k ∈ ks, k = 505 ∨ k = 901 ∨ k = 708) (hls : ∀ x ∈ ls, x = B 8) (hS : ∀ f : Nat, f ≠ 1 → (f < 32 ∨ 43 < f) → S f = R f) (h1 : R 1 0 ≤ S 1 0) (hC : rkC G' B S) (hJ : rkJ S) : rkZ G' B S := by
  obtain ⟨hW, -, -, hQ, hF, s1, s2, s3⟩ := hZ
  have hB := hW.1
  obtain ⟨⟨b0, -, -⟩, ⟨k1, k2, k3, k4, k5, k8, k9⟩, -, hne⟩ := id hB
  obtain ⟨n12, n13, n14, n15, n18, n19, n23, n24, n25, n28, n29, n34, n35, n38, n39, n45, n48, n49, n58, n59, n89⟩ := hne
  have b00 : gK G (B 0) ≠ 0 := by rw [b0]; decide
  have hW1 := rkW_fr hW hf (fun k z => by rcases hks k z with rfl | rfl | rfl <;> rfl) ⟨fun z => n18 (hls _ z), fun z => n28 (hls _ z), fun z => n38 (hls _ z)⟩ (fun x z => by rw [hls x z]; omega)
  refine ⟨rkW_R hW1 (fun f a b => hS f b (by omega)) hJ.2.2.2, hC, hJ, rkQ_turn hB hQ hf (fun k z => by have := hks k z; omega) (fun z => n89 (hls _ z).symm) (fun f z => hS f (by omega) (by omega)) h1, rkF_fr hB hF hf (fun k z => by have := hks k z; omega) ⟨fun z => n28 (hls _ z), fun z => n58 (hls _ z)⟩ (fun f z => hS f (by omega) (by omega)) (by rw [hS 53 (by decide) (by decide)]; exact Int.le_refl _), ?_, ?_, ?_⟩
  · rw [hS 2 (by decide) (by decide)]
    exact ((hf.2.1 1407 (B 0) b00 (fun z => by have := hks _ z; omega)).1).trans s1
  · rw [hS 0 (by decide) (by decide)]
    exact ((hf.2.1 1408 (B 0) b00 (fun z => by have := hks _ z; omega)).1).trans s2
  · rw [hS 53 (by decide) (by decide)]
    exact ((hf.2.1 1409 (B 0) b00 (fun z => by have := hks _ z; omega)).1).trans s3
/-- rows through a hop -/
theorem rkD2_f {f : Nat} (h : f ≠ 68) (h' : f ≠ 69) : rD2 T0 m f = T0 f := funext fun j => by unfold rD2; rw [u2_k h', u2_k h]
theorem rWhere_in (hH : RH T0) (hD : RAd T0) (hP : RP T0) (h61 : 0 ≤ T0 61 0 ∧ T0 61 0 < T0 24 0) (hm : 0 ≤ m ∧ m < T0 7 0) : 0 ≤ rWhere T0 m ∧ rWhere T0 m ≤ 31 := by
  unfold rWhere
  split
  · exact rPlace_in hH hD hm.1 hm.2
  · have t : 0 ≤ rTop T0 (T0 61 0) ∧ rTop T0 (T0 61 0) < T0 24 0 := rTopF_in hP 8 (T0 61 0) h61.1 h61.2
    have u := (hP.2 (rTop T0 (T0 61 0)).toNat (by omega)).1
    exact rPlace_in hH hD u.1 u.2
theorem rkGt_in (hD : RAd T0) (hm : 0 ≤ m ∧ m < T0 7 0) : InR (rGate T0 m) := by
  have d := (hD m.toNat (by omega)).2.2.1
  unfold rGate
  split
  · exact ⟨by omega, by omega⟩
  · split <;> exact ⟨by omega, by omega⟩
theorem rPfOrg_in (hH : RH T0) (hD : RAd T0) (hP : RP T0) (h61 : 0 ≤ T0 61 0 ∧ T0 61 0 < T0 24 0) : InR (rPfOrg T0) := by
  have u := (hP.2 (T0 61 0).toNat (by omega)).1
  have d := hD (T0 25 (T0 61 0).toNat).toNat (by omega)
  have g := rkGt_in hD u
  have hh := hH.1
  unfold rPfOrg rOrg rFrom
  split
  · have g2 : rGate T0 (T0 25 (T0 61 0).toNat) ≤ 9999 ∧ 0 ≤ rGate T0 (T0 25 (T0 61 0).toNat) := by
      unfold rGate
      split
      · omega
      · split <;> omega
    exact ⟨by omega, by omega⟩
  · exact ⟨by omega, by omega⟩
/-- a preflight was asked for -/
theorem rkT_pf (h : rkT G0 G B (rD2 T0 m) rq ch hp ar L0 cr m q) (hm : 0 ≤ m ∧ m < T0 7 0) (h61 : 0 ≤ T0 61 0 ∧ T0 61 0 < T0 24 0) (hX : RX T0 n) (hn : n ≤ 239) (hT : 0 ≤ T0 17 m.toNat ∧ T0 17 m.toNat ≤ 1000) (hneed : rNeed T0 m = true) (hf : rkFr [403, 1101, 1409] [B 9, B 5] G G') (hQ : rkQ G' B (rPfR (rD2 T0 m) m (rWhere T0 m))) (hF : rkF G' B (rPfR (rD2 T0 m) m (rWhere T0 m))) (h49 : gI G' 1409 (B 0) = rPfR (rD2 T0 m) m (rWhere T0 m) 53 0) : rkT G0 G' B (rD3 T0 m) rq ch hp ar L0 cr m q := by
  have e3 : rD3 T0 m = rPfR (rD2 T0 m) m (rWhere T0 m) := if_pos hneed
  have z := h.1
  obtain ⟨iH, iA, iAd, iHl, iP, iS, iR, iU⟩ := z.1.2.2.2.2
  obtain ⟨x1, x2, x3, x4, x5, x6, x7, x8, x9⟩ := hX
  have L2 : RLn (rD2 T0 m) := x2
  have e : ∀ f : Nat, f ≠ 68 → f ≠ 69 → rD2 T0 m f = T0 f := fun f => rkD2_f
  obtain ⟨i1, i2, i3, i4, i5, i6⟩ := rPfR_I (R := rD2 T0 m) (a := m) (w := rWhere T0 m) L2 x4.1
  have hm2 : 0 ≤ m ∧ m < rD2 T0 m 7 0 := by rw [e 7 (by decide) (by decide)]; exact hm
  have h612 : 0 ≤ rD2 T0 m 61 0 ∧ rD2 T0 m 61 0 < rD2 T0 m 24 0 := by rw [e 61 (by decide) (by decide), e 24 (by decide) (by decide)]; exact h61
  have hw := rWhere_in (T0 := rD2 T0 m) iH iAd iP h612 hm2
  have hww : rWhere (rD2 T0 m) m = rWhere T0 m := Fs_where (fun f a b => e f (by omega) (by omega)) (congrFun (e 61 (by decide) (by decide)) 0) (congrFun (e 62 (by decide) (by decide)) 0)
  rw [hww] at hw
  have hr : ∀ k j, InR (rPfR (rD2 T0 m) m (rWhere T0 m) k j) := InR_pf iR x2.1 ⟨x6.1, by show T0 45 0 ≤ _; omega⟩ ⟨x5.1, by show T0 1 0 ≤ _; omega⟩ ⟨x7.1, by show T0 53 0 ≤ _; omega⟩ ⟨x8.1, by show T0 54 0 ≤ _; omega⟩ (rPfOrg_in iH iAd iP h612) ⟨by omega, by have := iA.2; omega⟩ (rkGt_in iAd hm2) ⟨by omega, by omega⟩ x4 hT
  rw [e3]
  refine rkT_step h hf (fun k z => by simp at z; omega) (fun x z => by simp at z; omega) ?_ (fun f a b => i1 f (by omega) a)
  exact rkZ_pool z hf (fun k z => by simp at z; omega) (fun x z => by simp at z; omega) (fun f a b => i1 f b a) i3.1 hr hQ hF h49
/-- a connection was used -/
theorem rkT_use (h : rkT G0 G B (rD3 T0 m) rq ch hp ar L0 cr m q) (hm : 0 ≤ m ∧ m < T0 7 0) (h61 : 0 ≤ T0 61 0 ∧ T0 61 0 < T0 24 0) (hX : RX T0 n) (hn : n ≤ 239) (hf : rkFr [403, 1101] [B 9] G G') (hQ : rkQ G' B (rD4 T0 m)) : rkT G0 G' B (rD4 T0 m) rq ch hp ar L0 cr m q := by
  have z := h.1
  obtain ⟨iH, iA, iAd, iHl, iP, iS, iR, iU⟩ := z.1.2.2.2.2
  obtain ⟨x1, x2, x3, x4, x5, x6, x7, x8, x9⟩ := hX
  obtain ⟨i1, i2, i3, i4, i5, i6⟩ := rD3_I (R := T0) (a := m) x2 x4.1
  have F3 : Fq T0 (rD3 T0 m) := rD3_Fq
  have o : ∀ f : Nat, (f < 44 ∨ 52 < f) → f ≠ 1 → rD4 T0 m f = rD3 T0 m f := fun f a b => rCon_out a b
  have c1 : rD4 T0 m 1 0 = rD3 T0 m 1 0 + 1 := rCon_1
  have hm2 : 0 ≤ m ∧ m < rD3 T0 m 7 0 := by rw [F3 7 (by decide) (by decide) (by decide) (by decide)]; exact hm
  have h612 : 0 ≤ rD3 T0 m 61 0 ∧ rD3 T0 m 61 0 < rD3 T0 m 24 0 := by rw [F3 61 (by decide) (by decide) (by decide) (by decide), F3 24 (by decide) (by decide) (by decide) (by decide)]; exact h61
  have hw := rWhere_in iH iAd iP h612 hm2
  have hww : rWhere (rD3 T0 m) m = rWhere T0 m := Fs_where F3.Fs (congrFun (F3 61 (by decide) (by decide) (by decide) (by decide)) 0) (congrFun (F3 62 (by decide) (by decide) (by decide) (by decide)) 0)
  rw [hww] at hw
  have hr : ∀ k j, InR (rD4 T0 m k j) := InR_con iR i2.1 ⟨by omega, by omega⟩ ⟨by omega, by omega⟩ (rkGt_in iAd hm2) (by have := bI_01 (rUsed T0 m); exact ⟨by omega, by omega⟩) ⟨by omega, by omega⟩
  obtain ⟨n12, n13, n14, n15, n18, n19, n23, n24, n25, n28, n29, n34, n35, n38, n39, n45, n48, n49, n58, n59, n89⟩ := z.1.1.2.2.2
  refine rkT_step h hf (fun k z => by simp at z; omega) (fun x z => by simp at z; omega) ?_ (fun f a b => o f (by omega) a)
  refine rkZ_pool z hf (fun k z => by simp at z; omega) (fun x z => by simp at z; omega) (fun f a b => o f (by omega) a) (by omega) hr hQ ?_ ?_
  · exact rkF_fr z.1.1 z.2.2.2.2.1 hf (by decide) ⟨by simpa using n29, by simpa using n59⟩ (fun f a => o f (by omega) (by omega)) (by rw [o 53 (by decide) (by decide)]; exact Int.le_refl _)
  · rw [o 53 (by decide) (by decide)]
    exact ((hf.2.1 1409 (B 0) (by rw [z.1.1.1.1]; decide) (by decide)).1).trans z.2.2.2.2.2.2.2
end TAKE2
