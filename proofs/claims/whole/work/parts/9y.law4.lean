/-! the law's twenty kinds of call (wip/tools/genlaw.py) -/
theorem ic_3 {x k : Int} (h : 0 ≤ x ∧ x ≤ k) (hk : k ≤ 3) : 0 ≤ x ∧ x ≤ 3 := ⟨h.1, Int.le_trans h.2 hk⟩
theorem ic_in {x k : Int} (h : 0 ≤ x ∧ x ≤ k) (hk : k ≤ 3) : InR x := ⟨by omega, by omega⟩
section LAWK
variable {E : EV} {p : Program} {l : Launch} {e : Env} {R : Room} {s : State} {m : MethodId} {args : Array Value} {below : List Frame} {meth : Method} {c : Code} {mc ms : Nat} {ret : Option FieldType} {Q : State → Prop} {G : GT} {kc ks kc0 ks0 : Nat} {bS LS : Nat} {xs : Nat → Int32} {i n : Int} {B : Nat → Nat} {o out : Nat} {b5 b6 : Option Value}
theorem XW_room {G : GT} {pc : Nat} {L : List (Option Value)} {st : List Value} (h1 : kc0 ≤ kc) (h2 : ks0 ≤ ks) (k : XW E p l e R s m args below meth c 7 mc ms Q G kc0 ks0 pc L st) : XW E p l e R s m args below meth c 7 mc ms Q G kc ks pc L st := fun H locs cells slots ls a1 a2 a3 a4 a5 => k H locs cells slots ls a1 a2 a3 (by omega) (by omega)
set_option maxHeartbeats 2000000 in
set_option maxRecDepth 100000 in
theorem lw_host (C : CX E p R s m args meth c cL_law 7 RL mc ms ret) (hRm : 12 ≤ R.frames ∧ 400 ≤ R.locals) (hX : va_X bS LS xs s s.heap) (hbl : bS < s.heap.size) (hE : s.heap.size ≤ E.2.2.1) (hi : 0 ≤ i ∧ i + 8 ≤ LS ∧ LS ≤ 4096) (h : rkLw G B o out n) (hn : 0 ≤ n ∧ n ≤ 600) (hl : l.stackTraces = false) (hkc : kc0 + 71 ≤ kc ∧ ks0 + 10086 ≤ ks)
    (k : ∀ (G' : GT) (a5 a6 : Option Value), rkLw G' B o out (n + 1) → XW E p l e R s m args below meth c 7 mc ms Q G' kc0 ks0 1519 [some (.ref bS), some (.ref (B 0)), some (.ref o), some (.ref out), some (.int (i32 i)), a5, a6] []) : XW E p l e R s m args below meth c 7 mc ms Q G kc ks 136 [some (.ref bS), some (.ref (B 0)), some (.ref o), some (.ref out), some (.int (i32 i)), b5, b6] [] := by
  obtain ⟨hM, hK, hZ, hP, hI⟩ := h
  have h : rkLw G B o out n := ⟨hM, hK, hZ, hP, hI⟩
  obtain ⟨iH, iA, iAd, iHl, iP, iS, ir, iU⟩ := hZ.1.2.2.2.2
  have hT : gR G 0 0 ≤ 900000000 := by have := hI.2.2.2.2; omega
  have h53 : gR G 53 0 ≤ 240 := by have a1 := hI.1.2.2.2.2.2.2.1; have a2 := hI.2.1.1; omega
  have kx : gK G (B 0) = 14 := hZ.1.1.1.1
  refine x_aload_n 137 C dL_law_136 rfl rfl ?_
  refine x_arg 143 1 C hX hbl hE hi (by decide) dL_law_137 dL_law_138 dL_law_140 dL_law_141 dL_law_142 rfl rfl rfl ?_
  refine x_arg 149 2 C hX hbl hE hi (by decide) dL_law_143 dL_law_144 dL_law_146 dL_law_147 dL_law_148 rfl rfl rfl ?_
  refine x_arg 155 3 C hX hbl hE hi (by decide) dL_law_149 dL_law_150 dL_law_152 dL_law_153 dL_law_154 rfl rfl rfl ?_
  refine x_flag 163 C dL_law_155 dL_law_158 dL_law_159 dL_law_162 rfl (lwI xs i 3) ?_
  refine x_aload_n 164 C dL_law_163 rfl rfl ?_
  have hlf := lf_host (a := (lwX xs i 1)) (w := (lwX xs i 2)) hZ hP hI
  refine x_callSH (As := [_, _, _, _, _]) 167 kc0 ks0 C hw_L_host iniL tw_L_host lk_L_84 nd_L_host (c_L_host kx (mx_mono (c_X11_host (c1 := (lwF (lwX xs i 3))) hZ.1 (lwI xs i 1) (lwI xs i 2) hl) (fun v G' z => ⟨z.1, z.2.1, hlf.2.2 G' z.2⟩)) (fun G' z => (z.1.1 out (by rw [hK]; decide)).trans hK) (iv_host ir iH) ic_host.2) dL_law_164 rfl rfl rfl ⟨by omega, by omega⟩ (Nat.le_of_ble_eq_true rfl) ⟨by omega, by omega⟩ (fun v G1 hq => ?_)
  obtain ⟨rfl, hq⟩ := hq
  obtain ⟨hL, hM1, hx1, ho1, hg1, hv1⟩ := rkLw_go h hq hlf.2.1
  refine x_as (G' := wR G1 (gR G)) (by rw [← hg1]; rfl) rfl rfl ?_
  refine x_istore 169 C dL_law_167 rfl rfl rfl ?_
  refine x_aload_n 170 C dL_law_169 rfl rfl ?_
  refine x_arg 176 1 C hX hbl hE hi (by decide) dL_law_170 dL_law_171 dL_law_173 dL_law_174 dL_law_175 rfl rfl rfl ?_
  refine x_arg 182 2 C hX hbl hE hi (by decide) dL_law_176 dL_law_177 dL_law_179 dL_law_180 dL_law_181 rfl rfl rfl ?_
  refine x_arg 188 3 C hX hbl hE hi (by decide) dL_law_182 dL_law_183 dL_law_185 dL_law_186 dL_law_187 rfl rfl rfl ?_
  refine x_flag 196 C dL_law_188 dL_law_191 dL_law_192 dL_law_195 rfl (lwI xs i 3) ?_
  refine x_Vr (As := [_, _, _]) 199 C vw_L_89 iw_X12_host sw_X12_host (c_X12_host (R := gR G) (z := (lwF (lwX xs i 3))) hM1 (lwI xs i 1) (lwI xs i 2) iH) dL_law_196 rfl rfl rfl rfl rfl rfl hM1.1 ⟨by omega, by omega⟩ (Nat.le_of_ble_eq_true rfl) ?_
  refine x_istore 201 C dL_law_199 rfl rfl rfl ?_
  exact x_tail (pc := 201) C hRm hM1 ho1 hlf.1 (ic_in ic_host (by decide)) (iv_host ir iH) hv1 dL_law_201 dL_law_202 dL_law_205 dL_law_207 dL_law_212 dL_law_214 dL_law_217 dL_law_218 dL_law_219 dL_law_220 dL_law_222 dL_law_223 dL_law_224 dL_law_229 (by decide) (k _ _ _ hL)
end LAWK
