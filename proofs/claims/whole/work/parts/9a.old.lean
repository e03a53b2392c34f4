/-! hops that were taken before stay while another hop's cookies are sent -/
section OLDH
variable {G G' : GT} {B : Nat → Nat} {R S : RT}
theorem rkHp_so {x hp ar : Nat} {q : Int} (hB : rkB G B) (hh : rkHp G B R q x) (h : rkFr [505, 901, 708] [] G G') (hso : rkSo G G' hp ar) (hx : x ≠ hp) (hna : ∀ y, gP G 707 x = some y → y ≠ ar) (h7 : R 7 0 ≤ S 7 0) (hS : S 31 q.toNat = R 31 q.toNat ∧ S 32 q.toNat = R 32 q.toNat ∧ ∀ j : Int, 0 ≤ j → j < R 32 q.toNat → S 33 (12 * q + j).toNat = R 33 (12 * q + j).toNat) : rkHp G' B S q x := by
  obtain ⟨a, me, ta, af, nv, pt, hv, h0, h31, h32, y, s1, s2, s3, s4⟩ := hh
  have hn : gK G x ≠ 0 := by rw [hv.1]; decide
  have hy : gK G y ≠ 0 := by rw [s2]; decide
  refine ⟨a, me, ta, af, nv, pt, rkHv_fr hv h (by decide) (h.2.2.1 (B 2) (by rw [hB.2.1.2.1]; decide) List.not_mem_nil), ⟨h0.1, by omega⟩, by rw [hS.1, (h.2.1 706 x hn (by decide)).1]; exact h31, by rw [hS.2.1]; exact h32, y, ((h.2.1 707 x hn (by decide)).2).trans s1, (h.1 y hy).trans s2, (hso.1 x hx).trans (s3.trans hS.2.1.symm), fun j j0 j1 => ?_⟩
  rw [hS.2.1] at j1
  rw [hso.2 y (hna y s1), hS.2.2 j j0 j1]
  exact s4 j j0 j1
/-- requests that were made stay -/
theorem rkPast_fr {ks ls : List Nat} (hB : rkB G B) (hp : rkPast G B R) (h : rkFr ks ls G G') (hks : ∀ k ∈ ks, k < 700 ∨ 712 ≤ k) (h13 : 1304 ∉ ks) (hls : B 2 ∉ ls ∧ B 4 ∉ ls ∧ ∀ x ∈ ls, ∀ r, 0 ≤ r → r < R 28 0 → gP G 1304 (rkAt G (B 4) r) ≠ some x) (h7 : R 7 0 ≤ S 7 0) (hS : ∀ f : Nat, 28 ≤ f → f ≤ 33 → S f = R f) : rkPast G' B S := by
  obtain ⟨h1, h2⟩ := hp
  have e4 := h.2.2.1 (B 4) (by rw [hB.2.1.2.2.2.1]; decide) hls.2.1
  refine ⟨by rw [e4, hS 28 (by decide) (by decide)]; exact h1, fun r r0 r1 => ?_⟩
  rw [hS 28 (by decide) (by decide)] at r1
  obtain ⟨k, ch, c1, c2, c3, c4⟩ := h2 r r0 r1
  have hn : gK G (rkAt G (B 4) r) ≠ 0 := by rw [k]; decide
  have hcn : gK G ch ≠ 0 := by rw [c2]; decide
  have el := h.2.2.1 ch hcn (fun z => hls.2.2 ch z r r0 r1 c1)
  rw [rkAt_same e4]
  refine ⟨(h.1 _ hn).trans k, ch, ((h.2.1 1304 _ hn h13).2).trans c1, (h.1 ch hcn).trans c2, by rw [el, hS 30 (by decide) (by decide)]; exact c3, fun j j0 j1 => ?_⟩
  rw [hS 30 (by decide) (by decide)] at j1
  rw [rkAt_same el]
  exact rkHp_fr hB (c4 j j0 j1) h hks hls.1 h7 ⟨by rw [hS 31 (by decide) (by decide)], by rw [hS 32 (by decide) (by decide)], fun i _ _ => by rw [hS 33 (by decide) (by decide)]⟩
end OLDH
