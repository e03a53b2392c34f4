/-! kept preflights: one is kept, those that are gone are dropped -/
section PREF2
variable {G G' : GT} {B : Nat → Nat} {R S T : RT}
theorem rkNd_ne {xs : List Nat} (h : xs.Nodup) {i j : Nat} (hi : i < xs.length) (hj : j < xs.length) (e : xs[i] = xs[j]) : i = j := by
  have h' := List.pairwise_iff_getElem.mp h
  rcases Nat.lt_trichotomy i j with c | c | c
  · exact absurd e (h' i j hi hj c)
  · exact c
  · exact absurd e.symm (h' j i hj hi c)
theorem rkNd_set {xs : List Nat} {y : Nat} (h : xs.Nodup) (hy : y ∉ xs) (i : Nat) : (xs.set i y).Nodup := by
  have h' := List.pairwise_iff_getElem.mp h
  refine List.pairwise_iff_getElem.mpr (fun p q hp hq c => ?_)
  rw [List.length_set] at hp hq
  rw [List.getElem_set, List.getElem_set]
  by_cases c1 : i = p
  · rw [if_pos c1, if_neg (by omega)]
    exact fun z => hy (z ▸ List.getElem_mem hq)
  · rw [if_neg c1]
    by_cases c2 : i = q
    · rw [if_pos c2]
      exact fun z => hy (z ▸ List.getElem_mem hp)
    · rw [if_neg c2]
      exact h' p q hp hq c
theorem rkNd_app {xs : List Nat} {y : Nat} (h : xs.Nodup) (hy : y ∉ xs) : (xs ++ [y]).Nodup := by
  refine List.pairwise_append.mpr ⟨h, List.pairwise_singleton _ _, fun a ha b hb => ?_⟩
  rw [List.mem_singleton.mp hb]
  exact fun z => hy (z ▸ ha)
/-- what the list is after one is kept -/
theorem rkF_list (hA : ∀ i, 0 ≤ i → i < T 7 0 → gI G 300 (rkAt G (B 2) i) = i) (hF : rkF G B T) {y : Nat} {o a al w n : Int} {G' : GT} (hn : ((gL G (B 5)).length : Int) = n) (hy : gI G 1200 y = rkOg o ∧ gP G 1201 y = some (rkAt G (B 2) a) ∧ gI G 1202 y = al ∧ gI G 1203 y = rkPm w) (ho : rkFk T o a al w) (hyn : y ∉ gL G (B 5)) (h : (∃ p : Int, (0 ≤ p ∧ p < n) ∧ rkSm G (rkAt G (B 5) p) y ∧ G' = sL G (B 5) ((gL G (B 5)).set p.toNat y)) ∨ ((∀ p : Int, 0 ≤ p → p < n → ¬ rkSm G (rkAt G (B 5) p) y) ∧ G' = sL G (B 5) (gL G (B 5) ++ [y]))) : ∃ l' : List Nat, G' = sL G (B 5) l' ∧ (∀ x ∈ l', x = y ∨ (x ∈ gL G (B 5) ∧ ¬ rkSm G x y)) ∧ y ∈ l' ∧ (∀ x ∈ gL G (B 5), ¬ rkSm G x y → x ∈ l') ∧ l'.Nodup ∧ l'.length ≤ (gL G (B 5)).length + 1 := by
  have hd := hF.2.1
  rcases h with ⟨p, p1, p2, p3⟩ | ⟨p2, p3⟩
  · have hp : p.toNat < (gL G (B 5)).length := by omega
    have ea : rkAt G (B 5) p = (gL G (B 5))[p.toNat] := by
      unfold rkAt
      rw [List.getD_eq_getElem?_getD, List.getElem?_eq_getElem hp]
      rfl
    refine ⟨_, p3, fun x hx => ?_, ?_, fun x hx hs => ?_, rkNd_set hd hyn _, by rw [List.length_set]; omega⟩
    · obtain ⟨j, hj, e⟩ := List.getElem_of_mem hx
      rw [List.length_set] at hj
      rw [List.getElem_set] at e
      by_cases c : p.toNat = j
      · rw [if_pos c] at e
        exact Or.inl e.symm
      · rw [if_neg c] at e
        have hm : x ∈ gL G (B 5) := e ▸ List.getElem_mem hj
        refine Or.inr ⟨hm, fun z => c ?_⟩
        obtain ⟨k, k1, k2, -⟩ := hF.2.2.1 x hm
        have hmp : rkAt G (B 5) p ∈ gL G (B 5) := ea ▸ List.getElem_mem hp
        obtain ⟨k', k1', k2', -⟩ := hF.2.2.1 _ hmp
        have q1 := (rkSm_key hA k2 (hF.2.2.2.2.2.2.1 _ (by omega)) hy ho).mp z
        have q2 := (rkSm_key hA k2' (hF.2.2.2.2.2.2.1 _ (by omega)) hy ho).mp p2
        have hk := hF.2.2.2.2.2.2.2 k.toNat k'.toNat (by omega) (by omega) (q1.1.trans q2.1.symm) (q1.2.1.trans q2.2.1.symm) (q1.2.2.1.trans q2.2.2.1.symm) (q1.2.2.2.trans q2.2.2.2.symm)
        have hk2 : k = k' := by omega
        subst hk2
        have := hF.2.2.2.2.1 _ hmp x hm k k1.1 k1.2 k2' k2
        rw [ea, ← e] at this
        exact rkNd_ne hd hp hj this
    · have := List.getElem_mem (l := (gL G (B 5)).set p.toNat y) (n := p.toNat) (by rw [List.length_set]; exact hp)
      rwa [List.getElem_set, if_pos rfl] at this
    · obtain ⟨j, hj, e⟩ := List.getElem_of_mem hx
      have c : ¬ p.toNat = j := fun z => hs (by subst z; rw [← e, ← ea]; exact p2)
      have := List.getElem_mem (l := (gL G (B 5)).set p.toNat y) (n := j) (by rw [List.length_set]; exact hj)
      rw [List.getElem_set, if_neg c, e] at this
      exact this
  · refine ⟨_, p3, fun x hx => ?_, List.mem_append_right _ List.mem_cons_self, fun x hx _ => List.mem_append_left _ hx, rkNd_app hd hyn, by rw [List.length_append]; exact Nat.le_refl _⟩
    rcases List.mem_append.mp hx with z | z
    · obtain ⟨i, i0, i1, rfl⟩ := rkAt_mem hn z
      exact Or.inr ⟨z, p2 i i0 i1⟩
    · exact Or.inl (List.mem_singleton.mp z)
theorem rkF_keep (hA : ∀ i, 0 ≤ i → i < T 7 0 → gI G 300 (rkAt G (B 2) i) = i) (hF : rkF G B T) {y : Nat} {o a al w ot ga fd f : Int} (hy0 : gK G y = 12) (hy : gI G 1200 y = rkOg o ∧ gP G 1201 y = some (rkAt G (B 2) a) ∧ gI G 1202 y = al ∧ gI G 1203 y = rkPm w) (hy4 : gI G 1204 y = ot) (hy5 : gI G 1205 y = ga) (ho : rkFk T o a al w)
    (hfd : (fd = -1 ∧ ∀ k : Nat, (k : Int) < T 54 0 → ¬ (T 55 k = o ∧ T 56 k = a ∧ T 57 k = al ∧ T 58 k = w)) ∨ ((0 ≤ fd ∧ fd < T 54 0) ∧ T 55 fd.toNat = o ∧ T 56 fd.toNat = a ∧ T 57 fd.toNat = al ∧ T 58 fd.toNat = w)) (hf : f = if fd = -1 then T 54 0 else fd) (h54 : S 54 0 = if fd = -1 then T 54 0 + 1 else T 54 0) (hSo : ∀ g : Nat, 55 ≤ g → g ≤ 60 → ∀ j : Nat, j ≠ f.toNat → S g j = T g j) (hSf : S 55 f.toNat = o ∧ S 56 f.toNat = a ∧ S 57 f.toNat = al ∧ S 58 f.toNat = w ∧ S 59 f.toNat = ot ∧ S 60 f.toNat = ga) (h0 : S 0 0 = T 0 0) (h7 : S 7 0 = T 7 0) (hlen : ((gL G (B 5)).length : Int) + 1 ≤ S 53 0) (hga : S 0 0 < ga)
    {l' : List Nat} (l1 : ∀ x ∈ l', x = y ∨ (x ∈ gL G (B 5) ∧ ¬ rkSm G x y)) (l2 : y ∈ l') (l3 : ∀ x ∈ gL G (B 5), ¬ rkSm G x y → x ∈ l') (l4 : l'.Nodup) (l5 : l'.length ≤ (gL G (B 5)).length + 1) (hne : B 2 ≠ B 5) : rkF (sL G (B 5) l') B S := by
  obtain ⟨f1, f2, f3, f4, f5, f6⟩ := id hF
  have e5 : gL (sL G (B 5) l') (B 5) = l' := sL_s
  have e2 : ∀ i, rkAt (sL G (B 5) l') (B 2) i = rkAt G (B 2) i := fun i => rkAt_same (sL_n hne) i
  have h540 := f6.1
  have hfr : 0 ≤ f ∧ f < S 54 0 ∧ (f < T 54 0 → ¬ fd = -1) := by
    rw [hf, h54]
    rcases hfd with z | z
    · rw [if_pos z.1, if_pos z.1]; omega
    · rw [if_neg (by omega), if_neg (by omega)]; omega
  -- a place of one that is not for the same is not this one's
  have kf : ∀ k x, (0 ≤ k ∧ k < T 54 0) → rkPf G B T k x → ¬ rkSm G x y → k ≠ f := fun k x hk hx hs z => by
    refine hs ((rkSm_key hA hx (f6.2.1 _ (by omega)) hy ho).mpr ?_)
    rw [hf] at z
    rcases hfd with q | q
    · rw [if_pos q.1] at z; omega
    · rw [if_neg (by omega)] at z
      rw [z]
      exact q.2
  have keep : ∀ k x, 0 ≤ k → k ≠ f → (rkPf G B T k x ↔ rkPf (sL G (B 5) l') B S k x) := fun k x k0 kn => by
    unfold rkPf
    have jn : k.toNat ≠ f.toNat := by omega
    rw [hSo 55 (by decide) (by decide) _ jn, hSo 56 (by decide) (by decide) _ jn, hSo 57 (by decide) (by decide) _ jn, hSo 58 (by decide) (by decide) _ jn, hSo 59 (by decide) (by decide) _ jn, hSo 60 (by decide) (by decide) _ jn, e2]
    exact Iff.rfl
  have hyf : rkPf (sL G (B 5) l') B S f y := by
    unfold rkPf
    rw [hSf.1, hSf.2.1, hSf.2.2.1, hSf.2.2.2.1, hSf.2.2.2.2.1, hSf.2.2.2.2.2, e2]
    exact ⟨hy0, hy.1, hy.2.1, hy.2.2.1, hy.2.2.2, hy4, hy5⟩
  have lt : ∀ k, 0 ≤ k → k < S 54 0 → k ≠ f → k < T 54 0 := fun k k0 k1 kn => by
    rw [h54] at k1
    rw [hf] at kn
    split at k1
    · rename_i c
      rw [if_pos c] at kn; omega
    · exact k1
  have same : ∀ x, rkPf (sL G (B 5) l') B S f x → rkSm G x y := fun x hx => by
    obtain ⟨x0, x1, x2, x3, x4, -⟩ := hx
    rw [hSf.1] at x1
    rw [hSf.2.1, e2] at x2
    rw [hSf.2.2.1] at x3
    rw [hSf.2.2.2.1] at x4
    exact ⟨(show gI G 1200 x = _ from x1).trans hy.1.symm, (show gP G 1201 x = _ from x2).trans hy.2.1.symm, (show gI G 1202 x = _ from x3).trans hy.2.2.1.symm, (show gI G 1203 x = _ from x4).trans hy.2.2.2.symm⟩
  refine ⟨by rw [e5]; omega, by rw [e5]; exact l4, fun x hx => ?_, fun k k0 k1 hg => ?_, fun x hx z hz k k0 k1 hkx hkz => ?_, ?_⟩
  · rw [e5] at hx
    rcases l1 x hx with c | ⟨c1, c2⟩
    · rw [c]
      exact ⟨f, ⟨hfr.1, hfr.2.1⟩, hyf, by rw [hSf.2.2.2.2.2]; exact hga⟩
    · obtain ⟨k, k1, k2, k3⟩ := f3 x c1
      have kn := kf k x k1 k2 c2
      refine ⟨k, ⟨k1.1, ?_⟩, (keep k x k1.1 kn).mp k2, ?_⟩
      · rw [h54]; split <;> omega
      · rw [hSo 60 (by decide) (by decide) _ (by omega), h0]
        exact k3
  · by_cases c : k = f
    · exact ⟨y, by rw [e5]; exact l2, c ▸ hyf⟩
    · have k2 := lt k k0 k1 c
      rw [hSo 60 (by decide) (by decide) _ (by omega), h0] at hg
      obtain ⟨x, x1, x2⟩ := f4 k k0 k2 hg
      refine ⟨x, ?_, (keep k x k0 c).mp x2⟩
      rw [e5]
      refine l3 x x1 (fun z => ?_)
      have q := (rkSm_key hA x2 (f6.2.1 _ (by omega)) hy ho).mp z
      rcases hfd with d | d
      · exact d.2 k.toNat (by omega) q
      · have := f6.2.2 k.toNat fd.toNat (by omega) (by omega) (q.1.trans d.2.1.symm) (q.2.1.trans d.2.2.1.symm) (q.2.2.1.trans d.2.2.2.1.symm) (q.2.2.2.trans d.2.2.2.2.symm)
        rw [hf, if_neg (by omega)] at c
        omega
  · rw [e5] at hx hz
    by_cases c : k = f
    · rw [c] at hkx hkz
      have sx := same x hkx
      have sz := same z hkz
      rcases l1 x hx with q | q
      · rcases l1 z hz with r | r
        · rw [q, r]
        · exact absurd sz r.2
      · exact absurd sx q.2
    · have k2 := lt k k0 k1 c
      have mem : ∀ v, v ∈ l' → rkPf (sL G (B 5) l') B S k v → v ∈ gL G (B 5) := fun v hv hkv => by
        rcases l1 v hv with q | q
        · exfalso
          have hv2 := (keep k v k0 c).mpr hkv
          rw [q] at hv2
          have s := (rkSm_key hA hv2 (f6.2.1 _ (by omega)) hy ho).mp ⟨rfl, rfl, rfl, rfl⟩
          rcases hfd with d | d
          · exact d.2 k.toNat (by omega) s
          · have := f6.2.2 k.toNat fd.toNat (by omega) (by omega) (s.1.trans d.2.1.symm) (s.2.1.trans d.2.2.1.symm) (s.2.2.1.trans d.2.2.2.1.symm) (s.2.2.2.trans d.2.2.2.2.symm)
            rw [hf, if_neg (by omega)] at c
            omega
        · exact q.1
      exact f5 x (mem x hx hkx) z (mem z hz hkz) k k0 k2 ((keep k x k0 c).mpr hkx) ((keep k z k0 c).mpr hkz)
  · refine ⟨by rw [h54]; split <;> omega, fun k hk => ?_, fun i j hi hj q1 q2 q3 q4 => ?_⟩
    · by_cases c : k = f.toNat
      · rw [c, hSf.1, hSf.2.1, hSf.2.2.1, hSf.2.2.2.1]
        unfold rkFk
        rw [h7]
        exact ho
      · rw [hSo 55 (by decide) (by decide) _ c, hSo 56 (by decide) (by decide) _ c, hSo 57 (by decide) (by decide) _ c, hSo 58 (by decide) (by decide) _ c]
        unfold rkFk
        rw [h7]
        exact f6.2.1 k (lt k (by omega) hk (by omega))
    · have other : ∀ i : Nat, (i : Int) < S 54 0 → i ≠ f.toNat → ¬ (T 55 i = o ∧ T 56 i = a ∧ T 57 i = al ∧ T 58 i = w) := fun i hi c q => by
        have hi2 := lt i (by omega) hi (by omega)
        rcases hfd with d | d
        · exact d.2 i hi2 q
        · have := f6.2.2 i fd.toNat hi2 (by omega) (q.1.trans d.2.1.symm) (q.2.1.trans d.2.2.1.symm) (q.2.2.1.trans d.2.2.2.1.symm) (q.2.2.2.trans d.2.2.2.2.symm)
          rw [hf, if_neg (by omega)] at c
          omega
      by_cases ci : i = f.toNat
      · by_cases cj : j = f.toNat
        · omega
        · rw [ci, hSf.1, hSo 55 (by decide) (by decide) _ cj] at q1
          rw [ci, hSf.2.1, hSo 56 (by decide) (by decide) _ cj] at q2
          rw [ci, hSf.2.2.1, hSo 57 (by decide) (by decide) _ cj] at q3
          rw [ci, hSf.2.2.2.1, hSo 58 (by decide) (by decide) _ cj] at q4
          exact absurd ⟨q1.symm, q2.symm, q3.symm, q4.symm⟩ (other j hj cj)
      · by_cases cj : j = f.toNat
        · rw [cj, hSf.1, hSo 55 (by decide) (by decide) _ ci] at q1
          rw [cj, hSf.2.1, hSo 56 (by decide) (by decide) _ ci] at q2
          rw [cj, hSf.2.2.1, hSo 57 (by decide) (by decide) _ ci] at q3
          rw [cj, hSf.2.2.2.1, hSo 58 (by decide) (by decide) _ ci] at q4
          exact absurd ⟨q1, q2, q3, q4⟩ (other i hi ci)
        · rw [hSo 55 (by decide) (by decide) _ ci, hSo 55 (by decide) (by decide) _ cj] at q1
          rw [hSo 56 (by decide) (by decide) _ ci, hSo 56 (by decide) (by decide) _ cj] at q2
          rw [hSo 57 (by decide) (by decide) _ ci, hSo 57 (by decide) (by decide) _ cj] at q3
          rw [hSo 58 (by decide) (by decide) _ ci, hSo 58 (by decide) (by decide) _ cj] at q4
          exact f6.2.2 i j (lt i (by omega) hi (by omega)) (lt j (by omega) hj (by omega)) q1 q2 q3 q4
/-- time goes on: those that are gone are dropped -/
theorem rkF_gone (hF : rkF G B R) {nw : Int} (h0 : S 0 0 = nw) (hle : R 0 0 ≤ nw) (hS : ∀ f : Nat, (53 ≤ f ∧ f ≤ 60) ∨ f = 7 → S f = R f) (hne : B 2 ≠ B 5) : rkF (sL G (B 5) ((gL G (B 5)).filter (fun x => decide (nw < gI G 1205 x)))) B S := by
  obtain ⟨f1, f2, f3, f4, f5, f6⟩ := hF
  have e5 : gL (sL G (B 5) ((gL G (B 5)).filter (fun x => decide (nw < gI G 1205 x)))) (B 5) = (gL G (B 5)).filter (fun x => decide (nw < gI G 1205 x)) := sL_s
  have e2 : ∀ i, rkAt (sL G (B 5) ((gL G (B 5)).filter (fun x => decide (nw < gI G 1205 x)))) (B 2) i = rkAt G (B 2) i := fun i => rkAt_same (sL_n hne) i
  have K : ∀ k x, rkPf G B R k x ↔ rkPf (sL G (B 5) ((gL G (B 5)).filter (fun x => decide (nw < gI G 1205 x)))) B S k x := fun k x => by
    unfold rkPf
    rw [hS 55 (by omega), hS 56 (by omega), hS 57 (by omega), hS 58 (by omega), hS 59 (by omega), hS 60 (by omega), e2]
    exact Iff.rfl
  refine ⟨?_, by rw [e5]; exact List.Pairwise.filter _ f2, fun x hx => ?_, fun k k0 k1 hg => ?_, fun x hx y hy k k0 k1 hkx hky => ?_, ?_⟩
  · rw [e5, hS 53 (by omega)]
    have := List.length_filter_le (fun x => decide (nw < gI G 1205 x)) (gL G (B 5))
    omega
  · rw [e5] at hx
    obtain ⟨m1, m2⟩ := List.mem_filter.mp hx
    obtain ⟨k, k1, k2, k3⟩ := f3 x m1
    have m3 : nw < gI G 1205 x := of_decide_eq_true m2
    rw [k2.2.2.2.2.2.2] at m3
    rw [hS 54 (by omega), hS 60 (by omega), h0]
    exact ⟨k, k1, (K k x).mp k2, m3⟩
  · rw [hS 54 (by omega)] at k1
    rw [hS 60 (by omega), h0] at hg
    obtain ⟨x, x1, x2⟩ := f4 k k0 k1 (by omega)
    refine ⟨x, ?_, (K k x).mp x2⟩
    rw [e5]
    refine List.mem_filter.mpr ⟨x1, decide_eq_true ?_⟩
    rw [x2.2.2.2.2.2.2]
    exact hg
  · rw [e5] at hx hy
    rw [hS 54 (by omega)] at k1
    exact f5 x (List.mem_filter.mp hx).1 y (List.mem_filter.mp hy).1 k k0 k1 ((K k x).mpr hkx) ((K k y).mpr hky)
  · unfold rkFs rkFk
    rw [hS 54 (by omega), hS 55 (by omega), hS 56 (by omega), hS 57 (by omega), hS 58 (by omega), hS 7 (by omega)]
    exact f6
end PREF2
