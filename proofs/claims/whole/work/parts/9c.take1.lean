/-! a hop under way: what holds from its making on -/
def rkTk : List Nat := [403, 505, 708, 709, 710, 711, 901, 1101, 1305, 1306, 1307, 1409]
def rkOl (G G' : GT) : Prop := ∀ x, gK G x ≠ 0 → (∀ f : Nat, 708 ≤ f → f ≤ 711 → gI G' f x = gI G f x) ∧ gA G' x = gA G x
def rkT (G0 G : GT) (B : Nat → Nat) (R : RT) (rq ch hp ar : Nat) (L0 : List Nat) (cr m q : Int) : Prop :=
  rkZ G B R ∧ (rkFr rkTk [B 9, B 5, B 8, ch] G0 G ∧ rkOl G0 G) ∧ rkRq G B rq (R 61 0) (R 62 0) cr (R 65 0) (R 66 0) (R 67 0) (R 68 0) ∧
  rkHv G B hp m (R 66 0) (R 67 0) (R 68 0) (bI (decide (R 62 0 = 2))) (rkPm (rWhere R m)) ∧ (rkSn G hp ar R q ∧ gI G 706 hp = rRef R m ∧ R 31 q.toNat = rHopV R m ∧ gI G 711 hp = 0) ∧
  (gK G0 hp = 0 ∧ gK G0 ar = 0) ∧ (gL G ch = L0 ++ [hp] ∧ gK G ch = 20 ∧ gP G 1304 rq = some ch ∧ ∀ i, i < 10 → ch ≠ B i)
section TAKE
variable {ks ls L0 : List Nat} {G0 G G' : GT} {B : Nat → Nat} {R S : RT} {rq ch hp ar : Nat} {cr m q : Int}
theorem Fs_ref (h : Fs R S) (h61 : S 61 0 = R 61 0) : rRef S m = rRef R m := by
  unfold rRef rFrom
  rw [h61, h 27 (by decide) (by decide), h 25 (by decide) (by decide), h 8 (by decide) (by decide)]
  simp only [h.same]
theorem Fs_where (h : Fs R S) (h61 : S 61 0 = R 61 0) (h62 : S 62 0 = R 62 0) : rWhere S m = rWhere R m := by
  unfold rWhere
  rw [h61, h62, h.place, h.top, h.place, h 25 (by decide) (by decide)]
theorem rkOl_rfl : rkOl G G := fun _ _ => ⟨fun _ _ _ => rfl, rfl⟩
theorem rkOl_tr (hf : rkFr ks ls G0 G) (h : rkOl G0 G) (k : rkOl G G') : rkOl G0 G' := fun x hx => by
  have hy : gK G x ≠ 0 := by rw [hf.1 x hx]; exact hx
  exact ⟨fun f a b => ((k x hy).1 f a b).trans ((h x hx).1 f a b), (k x hy).2.trans (h x hx).2⟩
theorem rkOl_fr (h : rkFr ks ls G G') (hks : ∀ k ∈ ks, k < 708 ∨ 712 ≤ k) : rkOl G G' := fun x hx =>
  ⟨fun f a b => (h.2.1 f x hx (fun z => by have := hks f z; omega)).1, h.2.2.2.2.2 (fun z => by have := hks 708 z; omega) x hx⟩
theorem rkTk_in {k : Nat} (h : k = 403 ∨ k = 505 ∨ k = 901 ∨ k = 1101 ∨ k = 1409) : k ∈ rkTk := by
  rcases h with rfl | rfl | rfl | rfl | rfl <;> decide
theorem rkB_l3 (hB : rkB G B) : (gK G (B 1) ≠ 0 ∧ gK G (B 2) ≠ 0 ∧ gK G (B 3) ≠ 0 ∧ gK G (B 4) ≠ 0) ∧ (B 2 ≠ B 9 ∧ B 2 ≠ B 5 ∧ B 2 ≠ B 8) ∧ (B 3 ≠ B 9 ∧ B 3 ≠ B 5 ∧ B 3 ≠ B 8) ∧ (B 1 ≠ B 9 ∧ B 1 ≠ B 5 ∧ B 1 ≠ B 8) ∧ (B 4 ≠ B 9 ∧ B 4 ≠ B 5 ∧ B 4 ≠ B 8) := by
  obtain ⟨-, ⟨k1, k2, k3, k4, -⟩, -, n⟩ := hB
  obtain ⟨n12, n13, n14, n15, n18, n19, n23, n24, n25, n28, n29, n34, n35, n38, n39, n45, n48, n49, n58, n59, n89⟩ := n
  exact ⟨⟨by rw [k1]; decide, by rw [k2]; decide, by rw [k3]; decide, by rw [k4]; decide⟩, ⟨n29, n25, n28⟩, ⟨n39, n35, n38⟩, ⟨n19, n15, n18⟩, n49, n45, n48⟩
/-- one step: fields and lists of the program's own parts; rows 34 to 60 -/
theorem rkT_step (h : rkT G0 G B R rq ch hp ar L0 cr m q) (hf : rkFr ks ls G G') (hks : ∀ k ∈ ks, k = 403 ∨ k = 505 ∨ k = 901 ∨ k = 1101 ∨ k = 1409) (hls : ∀ x ∈ ls, x = B 9 ∨ x = B 5 ∨ x = B 8) (hZ : rkZ G' B S) (hS : ∀ f : Nat, f ≠ 1 → (f < 34 ∨ 60 < f) → S f = R f) : rkT G0 G' B S rq ch hp ar L0 cr m q := by
  obtain ⟨z, ⟨f1, f2⟩, r, v, ⟨s1, s2, s3, s4⟩, hn, c1, c2, c3, c4⟩ := h
  obtain ⟨⟨k1, k2, k3, k4⟩, n2, n3, n1, n4⟩ := rkB_l3 z.1.1
  have F : Fs R S := fun f a b => hS f b (by omega)
  have e61 := congrFun (hS 61 (by decide) (by decide)) 0
  have e62 := congrFun (hS 62 (by decide) (by decide)) 0
  have e65 := congrFun (hS 65 (by decide) (by decide)) 0
  have e66 := congrFun (hS 66 (by decide) (by decide)) 0
  have e67 := congrFun (hS 67 (by decide) (by decide)) 0
  have e68 := congrFun (hS 68 (by decide) (by decide)) 0
  have l3 : gL G' (B 3) = gL G (B 3) := hf.2.2.1 (B 3) k3 (fun z => by have := hls _ z; omega)
  have l2 : gL G' (B 2) = gL G (B 2) := hf.2.2.1 (B 2) k2 (fun z => by have := hls _ z; omega)
  have kch : gK G ch ≠ 0 := by rw [c2]; decide
  have khp : gK G hp ≠ 0 := by rw [v.1]; decide
  have krq : gK G rq ≠ 0 := by rw [r.1]; decide
  have n8 : ∀ k ∈ ks, k < 700 ∨ 712 ≤ k := fun k z => by have := hks k z; omega
  refine ⟨hZ, ⟨fr_tr f1 (fr_wide hf (fun k z => rkTk_in (hks k z)) (fun x z => by have := hls x z; simp; omega)), rkOl_tr f1 f2 (rkOl_fr hf (fun k z => by have := hks k z; omega))⟩, ?_, ?_, ⟨?_, ?_, ?_, ((hf.2.1 711 hp khp (fun z => by have := hks _ z; omega)).1).trans s4⟩, hn, ?_, (hf.1 ch kch).trans c2, ((hf.2.1 1304 rq krq (fun z => by have := hks _ z; omega)).2).trans c3, c4⟩
  · rw [e61, e62, e65, e66, e67, e68]
    exact rkRq_fr r hf (fun k z => by have := hks k z; omega) l3
  · rw [e66, e67, e68, e62, Fs_where F e61 e62]
    exact rkHv_fr v hf (fun k z => by have := hks k z; omega) l2
  · exact rkSn_fr khp s1 hf ⟨fun z => by have := hks _ z; omega, fun z => by have := hks _ z; omega⟩ ⟨congrFun (hS 32 (by decide) (by decide)) _, fun j _ _ => congrFun (hS 33 (by decide) (by decide)) _⟩
  · rw [Fs_ref F e61, (hf.2.1 706 hp khp (fun z => by have := hks _ z; omega)).1]; exact s2
  · unfold rHopV
    rw [hS 31 (by decide) (by decide), e66, e67, Fs_ref F e61]; exact s3
  · rw [hf.2.2.1 ch kch (fun z => by have := hls _ z; have a := c4 9 (by decide); have b := c4 5 (by decide); have d := c4 8 (by decide); omega)]; exact c1
/-- cookies are sent -/
theorem rkT_send (h : rkT G0 G B R rq ch hp ar L0 cr m q) (hf : rkFr [505, 901, 708] [] G G') (hso : rkSo G G' hp ar) (hsn : rkSn G' hp ar S q) (hZ : rkZ G' B S) (hS : ∀ f : Nat, f ≠ 1 → f ≠ 32 → f ≠ 33 → f ≠ 43 → S f = R f) : rkT G0 G' B S rq ch hp ar L0 cr m q := by
  obtain ⟨z, ⟨f1, f2⟩, r, v, ⟨s1, s2, s3, s4⟩, hn, c1, c2, c3, c4⟩ := h
  obtain ⟨⟨k1, k2, k3, k4⟩, n2, n3, n1, n4⟩ := rkB_l3 z.1.1
  have F : Fs R S := fun f a b => hS f b (by omega) (by omega) (by omega)
  have e61 := congrFun (hS 61 (by decide) (by decide) (by decide) (by decide)) 0
  have e62 := congrFun (hS 62 (by decide) (by decide) (by decide) (by decide)) 0
  have e65 := congrFun (hS 65 (by decide) (by decide) (by decide) (by decide)) 0
  have e66 := congrFun (hS 66 (by decide) (by decide) (by decide) (by decide)) 0
  have e67 := congrFun (hS 67 (by decide) (by decide) (by decide) (by decide)) 0
  have e68 := congrFun (hS 68 (by decide) (by decide) (by decide) (by decide)) 0
  have l3 : gL G' (B 3) = gL G (B 3) := hf.2.2.1 (B 3) k3 List.not_mem_nil
  have l2 : gL G' (B 2) = gL G (B 2) := hf.2.2.1 (B 2) k2 List.not_mem_nil
  have kch : gK G ch ≠ 0 := by rw [c2]; decide
  have khp : gK G hp ≠ 0 := by rw [v.1]; decide
  have krq : gK G rq ≠ 0 := by rw [r.1]; decide
  have ol : rkOl G0 G' := fun x hx => by
    have x1 : x ≠ hp := fun z => hx (by rw [z]; exact hn.1)
    have x2 : x ≠ ar := fun z => hx (by rw [z]; exact hn.2)
    have hy : gK G x ≠ 0 := by rw [f1.1 x hx]; exact hx
    refine ⟨fun f a b => ?_, ?_⟩
    · by_cases c : f = 708
      · subst c
        exact (hso.1 x x1).trans ((f2 x hx).1 708 a b)
      · exact ((hf.2.1 f x hy (by simp; omega)).1).trans ((f2 x hx).1 f a b)
    · exact (funext fun j => hso.2 x x2 j).trans (f2 x hx).2
  refine ⟨hZ, ⟨fr_tr f1 (fr_wide hf (by decide) (fun x z => by cases z)), ol⟩, ?_, ?_, ⟨hsn, ?_, ?_, ((hf.2.1 711 hp khp (by decide)).1).trans s4⟩, hn, ?_, (hf.1 ch kch).trans c2, ((hf.2.1 1304 rq krq (by decide)).2).trans c3, c4⟩
  · rw [e61, e62, e65, e66, e67, e68]
    exact rkRq_fr r hf (by decide) l3
  · rw [e66, e67, e68, e62, Fs_where F e61 e62]
    exact rkHv_fr v hf (by decide) l2
  · rw [Fs_ref F e61, (hf.2.1 706 hp khp (by decide)).1]; exact s2
  · unfold rHopV
    rw [hS 31 (by decide) (by decide) (by decide) (by decide), e66, e67, Fs_ref F e61]; exact s3
  · rw [hf.2.2.1 ch kch List.not_mem_nil]; exact c1
/-- the hop is marked -/
theorem rkT_mark {f : Nat} {v : Int} (h : rkT G0 G B R rq ch hp ar L0 cr m q) (hk : f = 709 ∨ f = 710) : rkT G0 (sI G f hp v) B R rq ch hp ar L0 cr m q := by
  obtain ⟨z, ⟨f1, f2⟩, r, w, ⟨s1, s2, s3, s4⟩, hn, c1, c2, c3, c4⟩ := h
  have hf : rkFr [f] [] G (sI G f hp v) := fr_sI List.mem_cons_self (by omega) fr_rfl
  have hz : rkZ (sI G f hp v) B R := rkZ_fr z hf (fun k y => by rw [List.mem_singleton.mp y]; rcases hk with rfl | rfl <;> rfl) (fun x y => by cases y)
  have khp : gK G hp ≠ 0 := by rw [w.1]; decide
  have ol : rkOl G0 (sI G f hp v) := fun x hx => by
    have x1 : x ≠ hp := fun z => hx (by rw [z]; exact hn.1)
    exact ⟨fun g a b => (show u2 (gI G) f hp v g x = _ from u2_a x1).trans ((f2 x hx).1 g a b), (f2 x hx).2⟩
  refine ⟨hz, ⟨fr_tr f1 (fr_wide hf (fun k y => by rw [List.mem_singleton.mp y]; rcases hk with rfl | rfl <;> decide) (fun x y => by cases y)), ol⟩, rkRq_fr r hf (fun k y => by rw [List.mem_singleton.mp y]; omega) rfl, rkHv_fr w hf (fun k y => by rw [List.mem_singleton.mp y]; omega) rfl, ⟨rkSn_fr khp s1 hf ⟨fun y => by have := List.mem_singleton.mp y; omega, fun y => by have := List.mem_singleton.mp y; omega⟩ ⟨rfl, fun _ _ _ => rfl⟩, ?_, s3, ((hf.2.1 711 hp khp (fun y => by have := List.mem_singleton.mp y; omega)).1).trans s4⟩, hn, c1, c2, c3, c4⟩
  exact ((hf.2.1 706 hp khp (fun y => by have := List.mem_singleton.mp y; omega)).1).trans s2
end TAKE
