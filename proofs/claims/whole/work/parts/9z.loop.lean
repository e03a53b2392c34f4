/-! the law's loop -/
section LLOOP
variable {E : EV} {p : Program} {l : Launch} {e : Env} {R : Room} {s : State} {m : MethodId} {args : Array Value} {below : List Frame} {meth : Method} {c : Code} {mc ms : Nat} {ret : Option FieldType} {Q : State → Prop} {G : GT} {kc ks : Nat} {bS LS : Nat} {xs : Nat → Int32} {B : Nat → Nat} {o out : Nat}
theorem rkLw_next {n : Int} (h : rkLw G B o out n) : rkLw G B o out (n + 1) := by
  obtain ⟨h1, h2, h3, h4, ⟨a1, a2, a3, a4, a5⟩⟩ := h
  exact ⟨h1, h2, h3, h4, ⟨a1, a2, a3, a4, by omega⟩⟩
set_option maxHeartbeats 4000000 in
set_option maxRecDepth 100000 in
theorem lw_loop (C : CX E p R s m args meth c cL_law 7 RL mc ms ret) (hRm : 12 ≤ R.frames ∧ 400 ≤ R.locals) (hX : va_X bS LS xs s s.heap) (hbl : bS < s.heap.size) (hE : s.heap.size ≤ E.2.2.1) (hLS : LS ≤ 4096) (h : rkLw G B o out 0) (hl : l.stackTraces = false) (hkc : 71 * 512 ≤ kc ∧ 10086 * 512 ≤ ks)
    (kend : ∀ (G' : GT) (L : List (Option Value)), XW E p l e R s m args below meth c 7 mc ms Q G' 0 0 1526 L [.int (i32 1)]) : XW E p l e R s m args below meth c 7 mc ms Q G kc ks 23 [some (.ref bS), some (.ref (B 0)), some (.ref o), some (.ref out), some (.int (i32 0)), none, none] [] := by
  refine x_loopK (α := Nat × GT × Option Value × Option Value) (fun a => 512 - a.1) (fun a => (8 * a.1 ≤ LS ∨ a.1 = 0) ∧ rkLw a.2.1 B o out (a.1 : Int)) (fun a => a.2.1) (fun a => [some (.ref bS), some (.ref (B 0)), some (.ref o), some (.ref out), some (.int (i32 (8 * (a.1 : Int)))), a.2.2.1, a.2.2.2]) (fun _ => []) (fun a => 71 * (512 - a.1)) (fun a => 10086 * (512 - a.1)) (0, G, none, none) ⟨Or.inr rfl, h⟩ rfl rfl rfl ⟨by show 71 * 512 ≤ kc; omega, by show 10086 * 512 ≤ ks; omega⟩ ?_
  rintro ⟨n, G1, a5, a6⟩ ⟨hn8, hlw⟩ ih
  dsimp only at hn8 hlw ih ⊢
  have hn0 : 8 * n ≤ LS := by omega
  refine x_iload 25 C dL_law_23 rfl rfl ?_
  refine x_aload_n 26 C dL_law_25 rfl rfl ?_
  refine x_slen 27 C hX hbl hE dL_law_26 rfl ?_
  refine x_bipush 29 C dL_law_27 rfl (by decide) ?_
  refine x_isub 30 C dL_law_29 rfl ?_
  refine x_icmp_gt 33 1525 C dL_law_30 rfl (by decide) ⟨by omega, by omega⟩ ⟨by omega, by omega⟩ (fun _ => ?_) (fun hle => ?_)
  · refine x_weak (Nat.zero_le _) (Nat.zero_le _) ?_
    refine x_iconst 1526 C dL_law_1525 rfl ?_
    exact kend _ _
  · have hn5 : n < 512 := by omega
    have hi : 0 ≤ 8 * (n : Int) ∧ 8 * (n : Int) + 8 ≤ LS ∧ LS ≤ 4096 := ⟨by omega, by omega, hLS⟩
    have hnn : 0 ≤ (n : Int) ∧ (n : Int) ≤ 600 := ⟨by omega, by omega⟩
    have hkk : 71 * (512 - (n + 1)) + 71 ≤ 71 * (512 - n) ∧ 10086 * (512 - (n + 1)) + 10086 ≤ 10086 * (512 - n) := ⟨by omega, by omega⟩
    have k : ∀ (G' : GT) (a5 a6 : Option Value), rkLw G' B o out ((n : Int) + 1) → XW E p l e R s m args below meth c 7 mc ms Q G' (71 * (512 - (n + 1))) (10086 * (512 - (n + 1))) 1519 [some (.ref bS), some (.ref (B 0)), some (.ref o), some (.ref out), some (.int (i32 (8 * (n : Int)))), a5, a6] [] := fun G' a5 a6 h' => by
      refine x_iinc (L' := [some (.ref bS), some (.ref (B 0)), some (.ref o), some (.ref out), some (.int (i32 (8 * ((n + 1 : Nat) : Int)))), a5, a6]) 1522 C dL_law_1519 rfl rfl rfl ?_ ?_
      · rw [show 8 * ((n + 1 : Nat) : Int) = 8 * (n : Int) + 8 by omega]
        rfl
      · refine x_goto 23 C dL_law_1522 (by decide) ?_
        exact ih (n + 1, G', a5, a6) ⟨Or.inl (by show 8 * (n + 1) ≤ LS; omega), (show rkLw G' B o out ((n + 1 : Nat) : Int) by rw [show ((n + 1 : Nat) : Int) = (n : Int) + 1 by omega]; exact h')⟩ (show 512 - (n + 1) < 512 - n by omega)
    refine x_aload_n 34 C dL_law_33 rfl rfl ?_
    refine x_iload 36 C dL_law_34 rfl rfl ?_
    refine x_sld 37 C hX hbl hE ⟨by omega, by omega, ⟨by omega, by omega⟩⟩ dL_law_36 rfl ?_
    refine x_bipush 39 C dL_law_37 rfl (by decide) ?_
    refine x_iand 40 C dL_law_39 rfl ?_
    obtain ⟨w, hw⟩ : ∃ w : Int, w = iand (xs (8 * (n : Int)).toNat).toInt 31 := ⟨_, rfl⟩
    have hwr : InR w := by rw [hw]; exact iand_in _ _
    rw [← hw]
    by_cases hrange : w < 0 ∨ 19 < w
    · exact x_tableOut 1519 C dL_law_40 hwr hrange (by decide) (x_weak (by omega) (by omega) (k _ _ _ (rkLw_next hlw)))
    by_cases c0 : w = 0
    · exact x_tableIn 136 0 C dL_law_40 hwr c0 (by decide) rfl (by decide) (lw_host C hRm hX hbl hE hi hlw hnn hl hkk k)
    by_cases c1 : w = 1
    · exact x_tableIn 232 1 C dL_law_40 hwr c1 (by decide) rfl (by decide) (lw_toggleSuffix C hRm hX hbl hE hi hlw hnn hl hkk k)
    by_cases c2 : w = 2
    · exact x_tableIn 295 2 C dL_law_40 hwr c2 (by decide) rfl (by decide) (lw_site C hRm hX hbl hE hi hlw hnn hl hkk k)
    by_cases c3 : w = 3
    · exact x_tableIn 351 3 C dL_law_40 hwr c3 (by decide) rfl (by decide) (lw_address C hRm hX hbl hE hi hlw hnn hl hkk k)
    by_cases c4 : w = 4
    · exact x_tableIn 443 4 C dL_law_40 hwr c4 (by decide) rfl (by decide) (lw_resolve C hRm hX hbl hE hi hlw hnn hl hkk k)
    by_cases c5 : w = 5
    · exact x_tableIn 511 5 C dL_law_40 hwr c5 (by decide) rfl (by decide) (lw_text C hRm hX hbl hE hi hlw hnn hl hkk k)
    by_cases c6 : w = 6
    · exact x_tableIn 579 6 C dL_law_40 hwr c6 (by decide) rfl (by decide) (lw_redirect C hRm hX hbl hE hi hlw hnn hl hkk k)
    by_cases c7 : w = 7
    · exact x_tableIn 639 7 C dL_law_40 hwr c7 (by decide) rfl (by decide) (lw_allow C hRm hX hbl hE hi hlw hnn hl hkk k)
    by_cases c8 : w = 8
    · exact x_tableIn 739 8 C dL_law_40 hwr c8 (by decide) rfl (by decide) (lw_setsCookie C hRm hX hbl hE hi hlw hnn hl hkk k)
    by_cases c9 : w = 9
    · exact x_tableIn 851 9 C dL_law_40 hwr c9 (by decide) rfl (by decide) (lw_toggleBlocking C hRm hX hbl hE hi hlw hnn hl hkk k)
    by_cases c10 : w = 10
    · exact x_tableIn 864 10 C dL_law_40 hwr c10 (by decide) rfl (by decide) (lw_page C hRm hX hbl hE hi hlw hnn hl hkk k)
    by_cases c11 : w = 11
    · exact x_tableIn 944 11 C dL_law_40 hwr c11 (by decide) rfl (by decide) (lw_request C hRm hX hbl hE hi hlw hnn hl hkk k)
    by_cases c12 : w = 12
    · exact x_tableIn 1078 12 C dL_law_40 hwr c12 (by decide) rfl (by decide) (lw_pass C hRm hX hbl hE hi hlw hnn hl hkk k)
    by_cases c13 : w = 13
    · exact x_tableIn 1134 13 C dL_law_40 hwr c13 (by decide) rfl (by decide) (lw_hops C hRm hX hbl hE hi hlw hnn hl hkk k)
    by_cases c14 : w = 14
    · exact x_tableIn 1190 14 C dL_law_40 hwr c14 (by decide) rfl (by decide) (lw_hop C hRm hX hbl hE hi hlw hnn hl hkk k)
    by_cases c15 : w = 15
    · exact x_tableIn 1258 15 C dL_law_40 hwr c15 (by decide) rfl (by decide) (lw_sent C hRm hX hbl hE hi hlw hnn hl hkk k)
    by_cases c16 : w = 16
    · exact x_tableIn 1338 16 C dL_law_40 hwr c16 (by decide) rfl (by decide) (lw_judged C hRm hX hbl hE hi hlw hnn hl hkk k)
    by_cases c17 : w = 17
    · exact x_tableIn 1394 17 C dL_law_40 hwr c17 (by decide) rfl (by decide) (lw_cookies C hRm hX hbl hE hi hlw hnn hl hkk k)
    by_cases c18 : w = 18
    · exact x_tableIn 1407 18 C dL_law_40 hwr c18 (by decide) rfl (by decide) (lw_cookie C hRm hX hbl hE hi hlw hnn hl hkk k)
    exact x_tableIn 1463 19 C dL_law_40 hwr (by omega) (by decide) rfl (by decide) (lw_count C hRm hX hbl hE hi hlw hnn hl hkk k)
end LLOOP
