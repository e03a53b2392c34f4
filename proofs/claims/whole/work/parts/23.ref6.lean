/-! rows laid by program (wip/tools/gen.py) -/
set_option maxHeartbeats 4000000 in
set_option maxRecDepth 100000 in
theorem c_X12_evicts {E : EV} {l : Launch} {G : GT} {R : RT} {o : Nat} {al si w : Int} (hM : RM G o) (hH : RH R) (hC : RC R) (h2 : InR al) (h3 : InR si) (h4 : InR w) (hE : 0 ≤ rEv R al si w ∧ rEv R al si w < R 34 0) : MT E l yX12_evicts cX12_evicts 7 none 2 46 0 0 [.ref o, .int (i32 al), .int (i32 si), .int (i32 w)] (wR G R) (pD none (wR G (rDrops R (rEv R al si w)))) := by
  refine mt_of (own := RX12) (L := [some (.ref o), some (.int (i32 al)), some (.int (i32 si)), some (.int (i32 w)), none, none, none]) (by decide +kernel) rfl (Nat.le_of_ble_eq_true rfl) (List.forall_mem_cons.mpr ⟨rfl, (List.forall_mem_cons.mpr ⟨rfl, (List.forall_mem_cons.mpr ⟨rfl, (List.forall_mem_cons.mpr ⟨rfl, (fun _ h => absurd h List.not_mem_nil)⟩)⟩)⟩)⟩) rfl ?_
  intro p e s m args below meth c C hin
  refine x_wf (fun hw => ?_)
  have hr0 : ∀ k j, InR (R k j) := hw.2.2.1
  have hz0 : ∀ k j, mZ k = true → R k j = 0 ∨ R k j = 1 := hw.2.2.2.2.1
  have hh := hC.1
  refine x_iconst 1 C dX12_evicts_0 rfl ?_
  refine x_istore 3 C dX12_evicts_1 rfl rfl rfl ?_
  refine x_iconst 4 C dX12_evicts_3 rfl ?_
  refine x_istore 6 C dX12_evicts_4 rfl rfl rfl ?_
  refine x_loop (α := Int × Int × Option Value) (fun ⟨b, k, x6⟩ => (R 34 0 - k).toNat) (fun ⟨b, k, x6⟩ => 0 ≤ k ∧ k ≤ R 34 0 ∧ b = rEv1 R al si w k.toNat) (fun ⟨b, k, x6⟩ => wR G R) (fun ⟨b, k, x6⟩ => [some (.ref o), some (.int (i32 al)), some (.int (i32 si)), some (.int (i32 w)), some (.int (i32 b)), some (.int (i32 k)), x6]) (fun _ => []) (-1, 0, none) ⟨by omega, by omega, rfl⟩ rfl rfl rfl ?_
  intro aa hI ih
  obtain ⟨b, k, x6⟩ := aa
  (try dsimp only at hI); (try dsimp only at ih); (try dsimp only)
  obtain ⟨i1, i2, i3⟩ := hI
  have ek : ((k.toNat : Nat) : Int) = k := by omega
  have hb := rEv1_in R al si w k.toNat
  rw [← i3] at hb
  refine x_iload 8 C dX12_evicts_6 rfl rfl ?_
  refine x_aload_n 9 C dX12_evicts_8 rfl rfl ?_
  refine x_mget 12 34 C fr_X12_260 dX12_evicts_9 rfl rfl hM ?_
  refine x_icmp_ge 15 91 C dX12_evicts_12 rfl (by decide) (by first | exact hw.2.2.1 _ _ | exact hr0 _ _ | assumption | omega | exact ⟨by omega, by omega⟩) (by first | exact hw.2.2.1 _ _ | exact hr0 _ _ | assumption | omega | exact ⟨by omega, by omega⟩) (fun h12 => ?_) (fun h12 => ?_)
  · skip
    refine x_iconst 92 C dX12_evicts_91 rfl ?_
    refine x_istore 94 C dX12_evicts_92 rfl rfl rfl ?_
    refine x_loop (α := Int × Int × Option Value) (fun ⟨b2, k2, x7⟩ => (R 34 0 - k2).toNat) (fun ⟨b2, k2, x7⟩ => 0 ≤ k2 ∧ k2 ≤ R 34 0 ∧ -1 ≤ b2 ∧ b2 < R 34 0 ∧ rEv2 R al si w 12 k2 b2 = rEv R al si w) (fun ⟨b2, k2, x7⟩ => wR G R) (fun ⟨b2, k2, x7⟩ => [some (.ref o), some (.int (i32 al)), some (.int (i32 si)), some (.int (i32 w)), some (.int (i32 b2)), some (.int (i32 k2)), x7]) (fun _ => []) (b, 0, x6) ⟨by omega, by omega, by omega, by omega, by (try dsimp only); rw [i3, show k = R 34 0 by omega]; rfl⟩ rfl rfl rfl ?_
    intro aa hI ih
    obtain ⟨b2, k2, x7⟩ := aa
    (try dsimp only at hI); (try dsimp only at ih); (try dsimp only)
    obtain ⟨j1, j2, j3, j4, j5⟩ := hI
    refine x_iload 96 C dX12_evicts_94 rfl rfl ?_
    refine x_aload_n 97 C dX12_evicts_96 rfl rfl ?_
    refine x_mget 100 34 C fr_X12_260 dX12_evicts_97 rfl rfl hM ?_
    refine x_icmp_ge 103 177 C dX12_evicts_100 rfl (by decide) (by first | exact hw.2.2.1 _ _ | exact hr0 _ _ | assumption | omega | exact ⟨by omega, by omega⟩) (by first | exact hw.2.2.1 _ _ | exact hr0 _ _ | assumption | omega | exact ⟨by omega, by omega⟩) (fun h100 => ?_) (fun h100 => ?_)
    · skip
      have eb : b2 = rEv R al si w := by rw [← j5]; first | exact (rEv2_stop (fun z => absurd z.1 (by omega))).symm | exact (rEv2_stop (fun z => z.2.elim h106 (fun y => by rw [h120] at y; cases y))).symm
      refine x_aload_n 178 C dX12_evicts_177 rfl rfl ?_
      refine x_iload 180 C dX12_evicts_178 rfl rfl ?_
      refine x_Vv (As := [_]) 183 C vw_X12_292 iw_X12_drops sw_X12_drops (c_X12_drops hM (by omega) (by omega)) dX12_evicts_180 rfl rfl rfl rfl rfl rfl hM.1 ⟨Nat.le_of_ble_eq_true rfl, Nat.le_of_ble_eq_true rfl⟩ (Nat.le_of_ble_eq_true rfl) ?_
      refine x_wf (fun hw => ?_)
      exact x_ret C dX12_evicts_183 ⟨rfl, congrArg (wR G) (by rw [eb])⟩
    · skip
      refine x_iload 105 C dX12_evicts_103 rfl rfl ?_
      refine x_iconst 106 C dX12_evicts_105 rfl ?_
      refine x_icmp_eq 109 123 C dX12_evicts_106 rfl (by decide) (by first | exact hw.2.2.1 _ _ | exact hr0 _ _ | assumption | omega | exact ⟨by omega, by omega⟩) (by first | exact hw.2.2.1 _ _ | exact hr0 _ _ | assumption | omega | exact ⟨by omega, by omega⟩) (fun h106 => ?_) (fun h106 => ?_)
      · skip
        refine x_aload_n 124 C dX12_evicts_123 rfl rfl ?_
        refine x_iload 126 C dX12_evicts_124 rfl rfl ?_
        refine x_iload_n 127 C dX12_evicts_126 rfl rfl ?_
        refine x_iload_n 128 C dX12_evicts_127 rfl rfl ?_
        refine x_iload_n 129 C dX12_evicts_128 rfl rfl ?_
        refine x_Vr (As := [_, _, _, _]) 132 C vw_X12_288 iw_X12_isAmong sw_X12_isAmong (c_X12_isAmong hM hH hC (by omega) (by assumption) (by assumption) (by assumption)) dX12_evicts_129 rfl rfl rfl rfl rfl rfl hM.1 ⟨Nat.le_of_ble_eq_true rfl, Nat.le_of_ble_eq_true rfl⟩ (Nat.le_of_ble_eq_true rfl) ?_
        refine x_istore 134 C dX12_evicts_132 rfl rfl rfl ?_
        refine x_joinv 169 (fun vJ => vJ = if rAmong R k2 al si w = true ∧ (b2 = -1 ∨ R 43 k2.toNat < R 43 b2.toNat) then k2 else b2) ?_ (fun hJ169 => ?_)
        · intro vJ hJ
          subst hJ
          refine x_istore 171 C dX12_evicts_169 rfl rfl rfl ?_
          refine x_iinc 174 C dX12_evicts_171 rfl rfl rfl rfl ?_
          refine x_goto 94 C dX12_evicts_174 (by decide) ?_
          have hcond : k2 < R 34 0 ∧ (b2 = -1 ∨ rHas (R 40 b2.toNat) 1 = true) := ⟨by omega, by first | exact Or.inl h106 | exact Or.inr h120⟩
          exact ih (if rAmong R k2 al si w = true ∧ (b2 = -1 ∨ R 43 k2.toNat < R 43 b2.toNat) then k2 else b2, k2 + 1, some (.int (i32 (bI (rAmong R k2 al si w))))) ⟨by dsimp only; omega, by dsimp only; omega, by dsimp only; split <;> omega, by dsimp only; split <;> omega, by dsimp only; rw [← j5, rEv2_step hC j1 hcond]⟩ (by dsimp only; omega)
        · skip
          refine x_iload 136 C dX12_evicts_134 rfl rfl ?_
          refine x_if_eqB 139 167 C dX12_evicts_136 rfl (by decide) (fun h136 => ?_) (fun h136 => ?_)
          · skip
            refine x_iload 169 C dX12_evicts_167 rfl rfl ?_
            exact hJ169 _ (by first | (simp [bI, h136]; done) | (simp [bI, h136]; omega) | (simp [bI, h136] at *; omega))
          · skip
            refine x_iload 141 C dX12_evicts_139 rfl rfl ?_
            refine x_iconst 142 C dX12_evicts_141 rfl ?_
            refine x_icmp_eq 145 162 C dX12_evicts_142 rfl (by decide) (by first | exact hw.2.2.1 _ _ | exact hr0 _ _ | assumption | omega | exact ⟨by omega, by omega⟩) (by first | exact hw.2.2.1 _ _ | exact hr0 _ _ | assumption | omega | exact ⟨by omega, by omega⟩) (fun h142 => ?_) (fun h142 => ?_)
            · skip
              refine x_iload 164 C dX12_evicts_162 rfl rfl ?_
              refine x_goto 169 C dX12_evicts_164 (by decide) ?_
              exact hJ169 _ (by first | (simp [bI, h136, h142]; done) | (simp [bI, h136, h142]; omega) | (simp [bI, h136, h142] at *; omega))
            · skip
              refine x_aload_n 146 C dX12_evicts_145 rfl rfl ?_
              refine x_mrow 149 43 C fr_X12_116 dX12_evicts_146 rfl rfl hM ?_
              refine x_iload 151 C dX12_evicts_149 rfl rfl ?_
              refine x_mldI 152 43 C dX12_evicts_151 rfl rfl hM (by first | exact hIx | exact ⟨by omega, Int.lt_of_lt_of_le (b := 12) (by omega) (by decide)⟩) ?_
              refine x_aload_n 153 C dX12_evicts_152 rfl rfl ?_
              refine x_mrow 156 43 C fr_X12_116 dX12_evicts_153 rfl rfl hM ?_
              refine x_iload 158 C dX12_evicts_156 rfl rfl ?_
              refine x_mldI 159 43 C dX12_evicts_158 rfl rfl hM (by first | exact hIx | exact ⟨by omega, Int.lt_of_lt_of_le (b := 12) (by omega) (by decide)⟩) ?_
              refine x_icmp_ge 162 167 C dX12_evicts_159 rfl (by decide) (by first | exact hw.2.2.1 _ _ | exact hr0 _ _ | assumption | omega | exact ⟨by omega, by omega⟩) (by first | exact hw.2.2.1 _ _ | exact hr0 _ _ | assumption | omega | exact ⟨by omega, by omega⟩) (fun h159 => ?_) (fun h159 => ?_)
              · skip
                refine x_iload 169 C dX12_evicts_167 rfl rfl ?_
                exact hJ169 _ (by first | (simp [bI, h136, h142, h159]; done) | (simp [bI, h136, h142, h159]; omega) | (simp [bI, h136, h142, h159] at *; omega))
              · skip
                refine x_iload 164 C dX12_evicts_162 rfl rfl ?_
                refine x_goto 169 C dX12_evicts_164 (by decide) ?_
                exact hJ169 _ (by first | (simp [bI, h136, h142, h159]; done) | (simp [bI, h136, h142, h159]; omega) | (simp [bI, h136, h142, h159] at *; omega))
      · skip
        refine x_aload_n 110 C dX12_evicts_109 rfl rfl ?_
        refine x_mrow 113 40 C fr_X12_107 dX12_evicts_110 rfl rfl hM ?_
        refine x_iload 115 C dX12_evicts_113 rfl rfl ?_
        refine x_mldI 116 40 C dX12_evicts_115 rfl rfl hM (by first | exact hIx | exact ⟨by omega, Int.lt_of_lt_of_le (b := 12) (by omega) (by decide)⟩) ?_
        refine x_iconst 117 C dX12_evicts_116 rfl ?_
        refine x_Sr (As := [_, _]) 120 C vw_X12_263 tw_X12_has c_X12_has dX12_evicts_117 rfl rfl rfl ⟨Nat.le_of_ble_eq_true rfl, Nat.le_of_ble_eq_true rfl⟩ (Nat.le_of_ble_eq_true rfl) ?_
        refine x_if_eqB 123 177 C dX12_evicts_120 rfl (by decide) (fun h120 => ?_) (fun h120 => ?_)
        · skip
          have eb : b2 = rEv R al si w := by rw [← j5]; first | exact (rEv2_stop (fun z => absurd z.1 (by omega))).symm | exact (rEv2_stop (fun z => z.2.elim h106 (fun y => by rw [h120] at y; cases y))).symm
          refine x_aload_n 178 C dX12_evicts_177 rfl rfl ?_
          refine x_iload 180 C dX12_evicts_178 rfl rfl ?_
          refine x_Vv (As := [_]) 183 C vw_X12_292 iw_X12_drops sw_X12_drops (c_X12_drops hM (by omega) (by omega)) dX12_evicts_180 rfl rfl rfl rfl rfl rfl hM.1 ⟨Nat.le_of_ble_eq_true rfl, Nat.le_of_ble_eq_true rfl⟩ (Nat.le_of_ble_eq_true rfl) ?_
          refine x_wf (fun hw => ?_)
          exact x_ret C dX12_evicts_183 ⟨rfl, congrArg (wR G) (by rw [eb])⟩
        · skip
          refine x_aload_n 124 C dX12_evicts_123 rfl rfl ?_
          refine x_iload 126 C dX12_evicts_124 rfl rfl ?_
          refine x_iload_n 127 C dX12_evicts_126 rfl rfl ?_
          refine x_iload_n 128 C dX12_evicts_127 rfl rfl ?_
          refine x_iload_n 129 C dX12_evicts_128 rfl rfl ?_
          refine x_Vr (As := [_, _, _, _]) 132 C vw_X12_288 iw_X12_isAmong sw_X12_isAmong (c_X12_isAmong hM hH hC (by omega) (by assumption) (by assumption) (by assumption)) dX12_evicts_129 rfl rfl rfl rfl rfl rfl hM.1 ⟨Nat.le_of_ble_eq_true rfl, Nat.le_of_ble_eq_true rfl⟩ (Nat.le_of_ble_eq_true rfl) ?_
          refine x_istore 134 C dX12_evicts_132 rfl rfl rfl ?_
          refine x_joinv 169 (fun vJ => vJ = if rAmong R k2 al si w = true ∧ (b2 = -1 ∨ R 43 k2.toNat < R 43 b2.toNat) then k2 else b2) ?_ (fun hJ169 => ?_)
          · intro vJ hJ
            subst hJ
            refine x_istore 171 C dX12_evicts_169 rfl rfl rfl ?_
            refine x_iinc 174 C dX12_evicts_171 rfl rfl rfl rfl ?_
            refine x_goto 94 C dX12_evicts_174 (by decide) ?_
            have hcond : k2 < R 34 0 ∧ (b2 = -1 ∨ rHas (R 40 b2.toNat) 1 = true) := ⟨by omega, by first | exact Or.inl h106 | exact Or.inr h120⟩
            exact ih (if rAmong R k2 al si w = true ∧ (b2 = -1 ∨ R 43 k2.toNat < R 43 b2.toNat) then k2 else b2, k2 + 1, some (.int (i32 (bI (rAmong R k2 al si w))))) ⟨by dsimp only; omega, by dsimp only; omega, by dsimp only; split <;> omega, by dsimp only; split <;> omega, by dsimp only; rw [← j5, rEv2_step hC j1 hcond]⟩ (by dsimp only; omega)
          · skip
            refine x_iload 136 C dX12_evicts_134 rfl rfl ?_
            refine x_if_eqB 139 167 C dX12_evicts_136 rfl (by decide) (fun h136 => ?_) (fun h136 => ?_)
            · skip
              refine x_iload 169 C dX12_evicts_167 rfl rfl ?_
              exact hJ169 _ (by first | (simp [bI, h136]; done) | (simp [bI, h136]; omega) | (simp [bI, h136] at *; omega))
            · skip
              refine x_iload 141 C dX12_evicts_139 rfl rfl ?_
              refine x_iconst 142 C dX12_evicts_141 rfl ?_
              refine x_icmp_eq 145 162 C dX12_evicts_142 rfl (by decide) (by first | exact hw.2.2.1 _ _ | exact hr0 _ _ | assumption | omega | exact ⟨by omega, by omega⟩) (by first | exact hw.2.2.1 _ _ | exact hr0 _ _ | assumption | omega | exact ⟨by omega, by omega⟩) (fun h142 => ?_) (fun h142 => ?_)
              · skip
                refine x_iload 164 C dX12_evicts_162 rfl rfl ?_
                refine x_goto 169 C dX12_evicts_164 (by decide) ?_
                exact hJ169 _ (by first | (simp [bI, h136, h142]; done) | (simp [bI, h136, h142]; omega) | (simp [bI, h136, h142] at *; omega))
              · skip
                refine x_aload_n 146 C dX12_evicts_145 rfl rfl ?_
                refine x_mrow 149 43 C fr_X12_116 dX12_evicts_146 rfl rfl hM ?_
                refine x_iload 151 C dX12_evicts_149 rfl rfl ?_
                refine x_mldI 152 43 C dX12_evicts_151 rfl rfl hM (by first | exact hIx | exact ⟨by omega, Int.lt_of_lt_of_le (b := 12) (by omega) (by decide)⟩) ?_
                refine x_aload_n 153 C dX12_evicts_152 rfl rfl ?_
                refine x_mrow 156 43 C fr_X12_116 dX12_evicts_153 rfl rfl hM ?_
                refine x_iload 158 C dX12_evicts_156 rfl rfl ?_
                refine x_mldI 159 43 C dX12_evicts_158 rfl rfl hM (by first | exact hIx | exact ⟨by omega, Int.lt_of_lt_of_le (b := 12) (by omega) (by decide)⟩) ?_
                refine x_icmp_ge 162 167 C dX12_evicts_159 rfl (by decide) (by first | exact hw.2.2.1 _ _ | exact hr0 _ _ | assumption | omega | exact ⟨by omega, by omega⟩) (by first | exact hw.2.2.1 _ _ | exact hr0 _ _ | assumption | omega | exact ⟨by omega, by omega⟩) (fun h159 => ?_) (fun h159 => ?_)
                · skip
                  refine x_iload 169 C dX12_evicts_167 rfl rfl ?_
                  exact hJ169 _ (by first | (simp [bI, h136, h142, h159]; done) | (simp [bI, h136, h142, h159]; omega) | (simp [bI, h136, h142, h159] at *; omega))
                · skip
                  refine x_iload 164 C dX12_evicts_162 rfl rfl ?_
                  refine x_goto 169 C dX12_evicts_164 (by decide) ?_
                  exact hJ169 _ (by first | (simp [bI, h136, h142, h159]; done) | (simp [bI, h136, h142, h159]; omega) | (simp [bI, h136, h142, h159] at *; omega))
  · skip
    refine x_joinv 46 (fun vJ => vJ = bI (rAmong R k al si w && !rHas (R 40 k.toNat) 1)) ?_ (fun hJ46 => ?_)
    · intro vJ hJ
      subst hJ
      refine x_istore 48 C dX12_evicts_46 rfl rfl rfl ?_
      refine x_joinv 83 (fun vJ => vJ = if (rAmong R k al si w && !rHas (R 40 k.toNat) 1) = true ∧ (b = -1 ∨ R 43 k.toNat < R 43 b.toNat) then k else b) ?_ (fun hJ83 => ?_)
      · intro vJ hJ
        subst hJ
        refine x_istore 85 C dX12_evicts_83 rfl rfl rfl ?_
        refine x_iinc 88 C dX12_evicts_85 rfl rfl rfl rfl ?_
        refine x_goto 6 C dX12_evicts_88 (by decide) ?_
        have e1 : (if (rAmong R k al si w && !rHas (R 40 k.toNat) 1) = true ∧ (b = -1 ∨ R 43 k.toNat < R 43 b.toNat) then k else b) = rEv1 R al si w (k + 1).toNat := by rw [show (k + 1).toNat = k.toNat + 1 by omega, rEv1, ek, ← i3]
        exact ih (if (rAmong R k al si w && !rHas (R 40 k.toNat) 1) = true ∧ (b = -1 ∨ R 43 k.toNat < R 43 b.toNat) then k else b, k + 1, some (.int (i32 (bI (rAmong R k al si w && !rHas (R 40 k.toNat) 1))))) ⟨by dsimp only; omega, by dsimp only; omega, e1⟩ (by dsimp only; omega)
      · skip
        refine x_iload 50 C dX12_evicts_48 rfl rfl ?_
        refine x_if_eqB 53 81 C dX12_evicts_50 rfl (by decide) (fun h50 => ?_) (fun h50 => ?_)
        · skip
          refine x_iload 83 C dX12_evicts_81 rfl rfl ?_
          exact hJ83 _ (by first | (simp [bI, h50]; done) | (simp [bI, h50]; omega) | (simp [bI, h50] at *; omega))
        · skip
          refine x_iload 55 C dX12_evicts_53 rfl rfl ?_
          refine x_iconst 56 C dX12_evicts_55 rfl ?_
          refine x_icmp_eq 59 76 C dX12_evicts_56 rfl (by decide) (by first | exact hw.2.2.1 _ _ | exact hr0 _ _ | assumption | omega | exact ⟨by omega, by omega⟩) (by first | exact hw.2.2.1 _ _ | exact hr0 _ _ | assumption | omega | exact ⟨by omega, by omega⟩) (fun h56 => ?_) (fun h56 => ?_)
          · skip
            refine x_iload 78 C dX12_evicts_76 rfl rfl ?_
            refine x_goto 83 C dX12_evicts_78 (by decide) ?_
            exact hJ83 _ (by first | (simp [bI, h50, h56]; done) | (simp [bI, h50, h56]; omega) | (simp [bI, h50, h56] at *; omega))
          · skip
            refine x_aload_n 60 C dX12_evicts_59 rfl rfl ?_
            refine x_mrow 63 43 C fr_X12_116 dX12_evicts_60 rfl rfl hM ?_
            refine x_iload 65 C dX12_evicts_63 rfl rfl ?_
            refine x_mldI 66 43 C dX12_evicts_65 rfl rfl hM (by first | exact hIx | exact ⟨by omega, Int.lt_of_lt_of_le (b := 12) (by omega) (by decide)⟩) ?_
            refine x_aload_n 67 C dX12_evicts_66 rfl rfl ?_
            refine x_mrow 70 43 C fr_X12_116 dX12_evicts_67 rfl rfl hM ?_
            refine x_iload 72 C dX12_evicts_70 rfl rfl ?_
            refine x_mldI 73 43 C dX12_evicts_72 rfl rfl hM (by first | exact hIx | exact ⟨by omega, Int.lt_of_lt_of_le (b := 12) (by omega) (by decide)⟩) ?_
            refine x_icmp_ge 76 81 C dX12_evicts_73 rfl (by decide) (by first | exact hw.2.2.1 _ _ | exact hr0 _ _ | assumption | omega | exact ⟨by omega, by omega⟩) (by first | exact hw.2.2.1 _ _ | exact hr0 _ _ | assumption | omega | exact ⟨by omega, by omega⟩) (fun h73 => ?_) (fun h73 => ?_)
            · skip
              refine x_iload 83 C dX12_evicts_81 rfl rfl ?_
              exact hJ83 _ (by first | (simp [bI, h50, h56, h73]; done) | (simp [bI, h50, h56, h73]; omega) | (simp [bI, h50, h56, h73] at *; omega))
            · skip
              refine x_iload 78 C dX12_evicts_76 rfl rfl ?_
              refine x_goto 83 C dX12_evicts_78 (by decide) ?_
              exact hJ83 _ (by first | (simp [bI, h50, h56, h73]; done) | (simp [bI, h50, h56, h73]; omega) | (simp [bI, h50, h56, h73] at *; omega))
    · skip
      refine x_aload_n 16 C dX12_evicts_15 rfl rfl ?_
      refine x_iload 18 C dX12_evicts_16 rfl rfl ?_
      refine x_iload_n 19 C dX12_evicts_18 rfl rfl ?_
      refine x_iload_n 20 C dX12_evicts_19 rfl rfl ?_
      refine x_iload_n 21 C dX12_evicts_20 rfl rfl ?_
      refine x_Vr (As := [_, _, _, _]) 24 C vw_X12_288 iw_X12_isAmong sw_X12_isAmong (c_X12_isAmong hM hH hC (by omega) (by assumption) (by assumption) (by assumption)) dX12_evicts_21 rfl rfl rfl rfl rfl rfl hM.1 ⟨Nat.le_of_ble_eq_true rfl, Nat.le_of_ble_eq_true rfl⟩ (Nat.le_of_ble_eq_true rfl) ?_
      refine x_if_eqB 27 45 C dX12_evicts_24 rfl (by decide) (fun h24 => ?_) (fun h24 => ?_)
      · skip
        refine x_iconst 46 C dX12_evicts_45 rfl ?_
        exact hJ46 _ (by first | (simp [bI, h24]; done) | (simp [bI, h24]; omega) | (simp [bI, h24] at *; omega))
      · skip
        refine x_aload_n 28 C dX12_evicts_27 rfl rfl ?_
        refine x_mrow 31 40 C fr_X12_107 dX12_evicts_28 rfl rfl hM ?_
        refine x_iload 33 C dX12_evicts_31 rfl rfl ?_
        refine x_mldI 34 40 C dX12_evicts_33 rfl rfl hM (by first | exact hIx | exact ⟨by omega, Int.lt_of_lt_of_le (b := 12) (by omega) (by decide)⟩) ?_
        refine x_iconst 35 C dX12_evicts_34 rfl ?_
        refine x_Sr (As := [_, _]) 38 C vw_X12_263 tw_X12_has c_X12_has dX12_evicts_35 rfl rfl rfl ⟨Nat.le_of_ble_eq_true rfl, Nat.le_of_ble_eq_true rfl⟩ (Nat.le_of_ble_eq_true rfl) ?_
        refine x_if_neB 41 45 C dX12_evicts_38 rfl (by decide) (fun h38 => ?_) (fun h38 => ?_)
        · skip
          refine x_iconst 46 C dX12_evicts_45 rfl ?_
          exact hJ46 _ (by first | (simp [bI, h24, h38]; done) | (simp [bI, h24, h38]; omega) | (simp [bI, h24, h38] at *; omega))
        · skip
          refine x_iconst 42 C dX12_evicts_41 rfl ?_
          refine x_goto 46 C dX12_evicts_42 (by decide) ?_
          exact hJ46 _ (by first | (simp [bI, h24, h38]; done) | (simp [bI, h24, h38]; omega) | (simp [bI, h24, h38] at *; omega))
set_option maxHeartbeats 4000000 in
set_option maxRecDepth 100000 in
theorem c_X12_connects {E : EV} {l : Launch} {G : GT} {R : RT} {o : Nat} {a cr w : Int} (hM : RM G o) (hA : RA R) (hD : RAd R) (hL : RLn R) (h1 : 0 ≤ a ∧ a < R 7 0) (h2 : cr = 0 ∨ cr = 1) (h3 : InR w) (hT : (0 ≤ R 0 0 ∧ R 0 0 ≤ 2000000000) ∧ (0 ≤ R 1 0 ∧ R 1 0 ≤ 2000000000) ∧ (0 ≤ R 45 0 ∧ R 45 0 ≤ 2000000000)) : MT E l yX12_connects cX12_connects 8 none 1 22 0 0 [.ref o, .int (i32 a), .int (i32 cr), .int (i32 w)] (wR G R) (pD none (wR G (rConR R a cr w))) := by
  refine mt_of (own := RX12) (L := [some (.ref o), some (.int (i32 a)), some (.int (i32 cr)), some (.int (i32 w)), none, none, none, none]) (by decide +kernel) rfl (Nat.le_of_ble_eq_true rfl) (List.forall_mem_cons.mpr ⟨rfl, (List.forall_mem_cons.mpr ⟨rfl, (List.forall_mem_cons.mpr ⟨rfl, (List.forall_mem_cons.mpr ⟨rfl, (fun _ h => absurd h List.not_mem_nil)⟩)⟩)⟩)⟩) rfl ?_
  intro p e s m args below meth c C hin
  refine x_wf (fun hw => ?_)
  have hr0 : ∀ k j, InR (R k j) := hw.2.2.1
  have hz0 : ∀ k j, mZ k = true → R k j = 0 ∨ R k j = 1 := hw.2.2.2.2.1
  have hh := hA.1
  have hh2 := hA.2
  have hh3 := hL.1
  have hcr : InR cr := ⟨by omega, by omega⟩
  have hg := rGate_in hD h1.1 h1.2
  refine x_iconst 1 C dX12_connects_0 rfl ?_
  refine x_istore 3 C dX12_connects_1 rfl rfl rfl ?_
  refine x_iconst 4 C dX12_connects_3 rfl ?_
  refine x_istore 6 C dX12_connects_4 rfl rfl rfl ?_
  refine x_iconst 7 C dX12_connects_6 rfl ?_
  refine x_istore 9 C dX12_connects_7 rfl rfl rfl ?_
  refine x_loop (α := Int × Int × Int × Option Value) (fun ⟨f, d, k, x7⟩ => (R 44 0 - k).toNat) (fun ⟨f, d, k, x7⟩ => 0 ≤ k ∧ k ≤ R 44 0 ∧ f = rConF R a cr w k.toNat ∧ d = rOldF R k.toNat) (fun ⟨f, d, k, x7⟩ => wR G R) (fun ⟨f, d, k, x7⟩ => [some (.ref o), some (.int (i32 a)), some (.int (i32 cr)), some (.int (i32 w)), some (.int (i32 f)), some (.int (i32 d)), some (.int (i32 k)), x7]) (fun _ => []) (-1, 0, 0, none) ⟨by omega, by omega, rfl, rfl⟩ rfl rfl rfl ?_
  intro aa hI ih
  obtain ⟨f, d, k, x7⟩ := aa
  (try dsimp only at hI); (try dsimp only at ih); (try dsimp only)
  obtain ⟨i1, i2, i3, i4⟩ := hI
  have ek : ((k.toNat : Nat) : Int) = k := by omega
  have hf := rConF_in R a cr w k.toNat
  have ho := rOldF_in R k.toNat
  rw [← i3] at hf
  rw [← i4] at ho
  refine x_iload 11 C dX12_connects_9 rfl rfl ?_
  refine x_aload_n 12 C dX12_connects_11 rfl rfl ?_
  refine x_mget 15 44 C fr_X12_241 dX12_connects_12 rfl rfl hM ?_
  refine x_icmp_ge 18 140 C dX12_connects_15 rfl (by decide) (by first | exact hr1 _ _ | exact hw.2.2.1 _ _ | exact hr0 _ _ | assumption | omega | exact ⟨by omega, by omega⟩) (by first | exact hr1 _ _ | exact hw.2.2.1 _ _ | exact hr0 _ _ | assumption | omega | exact ⟨by omega, by omega⟩) (fun h15 => ?_) (fun h15 => ?_)
  · skip
    have ef : f = rCF R a cr w := by rw [i3, show k = R 44 0 by omega]; rfl
    have ed : d = rCO R := by rw [i4, show k = R 44 0 by omega]; rfl
    refine x_join (α := Int) 196 (fun v => v = rCV R a cr w) (fun v => wR G (rCR1 R a cr w)) (fun v => [some (.ref o), some (.int (i32 a)), some (.int (i32 cr)), some (.int (i32 w)), some (.int (i32 v)), some (.int (i32 d)), some (.int (i32 k)), x7]) (fun v => []) ?_ (fun hJ196 => ?_)
    · intro aa hJ
      obtain ⟨v, rfl⟩ := (⟨aa, rfl⟩ : ∃ z, z = aa)
      (try dsimp only at hJ); (try dsimp only)
      subst hJ
      refine x_wf (fun hw => ?_)
      refine x_iload 198 C dX12_connects_196 rfl rfl ?_
      have g44 := rCR1_44 hL a cr w
      have gcv := rCV_in hL a cr w
      have g0 : rCR1 R a cr w 0 0 = R 0 0 := rCR1_out (Or.inl (by omega)) 0
      have g1 : rCR1 R a cr w 1 0 = R 1 0 := rCR1_out (Or.inl (by omega)) 0
      have g45 : rCR1 R a cr w 45 0 = R 45 0 := rCR1_out (Or.inr (Or.inl rfl)) 0
      have g7 : rCR1 R a cr w 7 0 = R 7 0 := rCR1_out (Or.inl (by omega)) 0
      have hA1 : RA (rCR1 R a cr w) := by unfold RA; rw [g7]; exact hA
      have hr1 : ∀ k j, InR (rCR1 R a cr w k j) := hw.2.2.1
      have gg : rGate (rCR1 R a cr w) a = rGate R a := by unfold rGate; rw [rCR1_out (Or.inl (by omega)), rCR1_out (Or.inl (by omega))]
      have gb : 0 < rGate (rCR1 R a cr w) a ∧ rGate (rCR1 R a cr w) a ≤ 9999 := by rw [gg]; exact hg
      refine x_iconst 199 C dX12_connects_198 rfl ?_
      refine x_icmp_ne 202 282 C dX12_connects_199 rfl (by decide) (by first | exact hr1 _ _ | exact hw.2.2.1 _ _ | exact hr0 _ _ | assumption | omega | exact ⟨by omega, by omega⟩) (by first | exact hr1 _ _ | exact hw.2.2.1 _ _ | exact hr0 _ _ | assumption | omega | exact ⟨by omega, by omega⟩) (fun h199 => ?_) (fun h199 => ?_)
      · skip
        refine x_aload_n 283 C dX12_connects_282 rfl rfl ?_
        refine x_mrow 286 51 C fr_X12_134 dX12_connects_283 rfl rfl hM ?_
        refine x_iload 288 C dX12_connects_286 rfl rfl ?_
        refine x_aload_n 289 C dX12_connects_288 rfl rfl ?_
        refine x_mget 292 0 C fr_X12_244 dX12_connects_289 rfl rfl hM ?_
        (try simp only [u2r, false_and, and_false, true_and, and_true, ↓reduceIte, Nat.reduceEqDiff])
        refine x_mstI 293 51 C dX12_connects_292 rfl rfl hM ⟨by omega, Int.lt_of_lt_of_le (b := 6) (by omega) (by decide)⟩ (by first | exact hr1 _ _ | exact hw.2.2.1 _ _ | exact hr0 _ _ | assumption | omega | exact ⟨by omega, by omega⟩) ?_
        refine x_wf (fun hw => ?_)
        refine x_aload_n 294 C dX12_connects_293 rfl rfl ?_
        refine x_mrow 297 52 C fr_X12_137 dX12_connects_294 rfl rfl hM ?_
        refine x_iload 299 C dX12_connects_297 rfl rfl ?_
        refine x_aload_n 300 C dX12_connects_299 rfl rfl ?_
        refine x_mget 303 1 C fr_X12_254 dX12_connects_300 rfl rfl hM ?_
        (try simp only [u2r, false_and, and_false, true_and, and_true, ↓reduceIte, Nat.reduceEqDiff])
        refine x_mstI 304 52 C dX12_connects_303 rfl rfl hM ⟨by omega, Int.lt_of_lt_of_le (b := 6) (by omega) (by decide)⟩ (by first | exact hr1 _ _ | exact hw.2.2.1 _ _ | exact hr0 _ _ | assumption | omega | exact ⟨by omega, by omega⟩) ?_
        refine x_wf (fun hw => ?_)
        refine x_aload_n 305 C dX12_connects_304 rfl rfl ?_
        refine x_dup 306 C dX12_connects_305 rfl rfl ?_
        refine x_mget 309 1 C fr_X12_254 dX12_connects_306 rfl rfl hM ?_
        (try simp only [u2r, false_and, and_false, true_and, and_true, ↓reduceIte, Nat.reduceEqDiff])
        refine x_iconst 310 C dX12_connects_309 rfl ?_
        refine x_iadd 311 C dX12_connects_310 rfl ?_
        refine x_mput 314 1 C fw_X12_254 dX12_connects_311 rfl rfl rfl hM (by first | exact hr1 _ _ | exact hw.2.2.1 _ _ | exact hr0 _ _ | assumption | omega | exact ⟨by omega, by omega⟩) (fun z => absurd z (by decide)) ?_
        refine x_wf (fun hw => ?_)
        exact x_ret C dX12_connects_314 ⟨rfl, congrArg (wR G) (by first | rfl | (simp [bI, rConR, rTouch, rAddLine, u2r, h15, h199]; done) | (simp [bI, rConR, rTouch, rAddLine, u2r, h15, h199] <;> omega) | (exfalso; simp_all; done))⟩
      · skip
        refine x_aload_n 203 C dX12_connects_202 rfl rfl ?_
        refine x_mget 206 44 C fr_X12_241 dX12_connects_203 rfl rfl hM ?_
        (try simp only [u2r, false_and, and_false, true_and, and_true, ↓reduceIte, Nat.reduceEqDiff])
        refine x_istore 208 C dX12_connects_206 rfl rfl rfl ?_
        refine x_aload_n 209 C dX12_connects_208 rfl rfl ?_
        refine x_mrow 212 46 C fr_X12_119 dX12_connects_209 rfl rfl hM ?_
        refine x_iload 214 C dX12_connects_212 rfl rfl ?_
        refine x_aload_n 215 C dX12_connects_214 rfl rfl ?_
        refine x_mrow 218 8 C fr_X12_20 dX12_connects_215 rfl rfl hM ?_
        refine x_iload_n 219 C dX12_connects_218 rfl rfl ?_
        refine x_mldI 220 8 C dX12_connects_219 rfl rfl hM (by first | exact hIx | exact ⟨by omega, Int.lt_of_lt_of_le (b := 24) (by omega) (by decide)⟩) ?_
        (try simp only [u2r, false_and, and_false, true_and, and_true, ↓reduceIte, Nat.reduceEqDiff])
        refine x_mstI 221 46 C dX12_connects_220 rfl rfl hM ⟨by omega, Int.lt_of_lt_of_le (b := 6) (by omega) (by decide)⟩ (by first | exact hr1 _ _ | exact hw.2.2.1 _ _ | exact hr0 _ _ | assumption | omega | exact ⟨by omega, by omega⟩) ?_
        refine x_wf (fun hw => ?_)
        refine x_aload_n 222 C dX12_connects_221 rfl rfl ?_
        refine x_mrow 225 47 C fr_X12_122 dX12_connects_222 rfl rfl hM ?_
        refine x_iload 227 C dX12_connects_225 rfl rfl ?_
        refine x_aload_n 228 C dX12_connects_227 rfl rfl ?_
        refine x_mrow 231 9 C fr_X12_23 dX12_connects_228 rfl rfl hM ?_
        refine x_iload_n 232 C dX12_connects_231 rfl rfl ?_
        refine x_mldI 233 9 C dX12_connects_232 rfl rfl hM (by first | exact hIx | exact ⟨by omega, Int.lt_of_lt_of_le (b := 24) (by omega) (by decide)⟩) ?_
        (try simp only [u2r, false_and, and_false, true_and, and_true, ↓reduceIte, Nat.reduceEqDiff])
        refine x_mstI 234 47 C dX12_connects_233 rfl rfl hM ⟨by omega, Int.lt_of_lt_of_le (b := 6) (by omega) (by decide)⟩ (by first | exact hr1 _ _ | exact hw.2.2.1 _ _ | exact hr0 _ _ | assumption | omega | exact ⟨by omega, by omega⟩) ?_
        refine x_wf (fun hw => ?_)
        refine x_aload_n 235 C dX12_connects_234 rfl rfl ?_
        refine x_mrow 238 48 C fr_X12_125 dX12_connects_235 rfl rfl hM ?_
        refine x_iload 240 C dX12_connects_238 rfl rfl ?_
        refine x_aload_n 241 C dX12_connects_240 rfl rfl ?_
        refine x_iload_n 242 C dX12_connects_241 rfl rfl ?_
        refine x_Vr (As := [_]) 245 C vw_X12_235 iw_X12_gate sw_X12_gate (c_X12_gate hM hA1 (by show 0 ≤ a ∧ a < rCR1 R a cr w 7 0; omega)) dX12_connects_242 rfl rfl rfl rfl rfl rfl hM.1 ⟨Nat.le_of_ble_eq_true rfl, Nat.le_of_ble_eq_true rfl⟩ (Nat.le_of_ble_eq_true rfl) ?_
        rw [rGate_u (by decide) (by decide), rGate_u (by decide) (by decide)]
        refine x_mstI 246 48 C dX12_connects_245 rfl rfl hM ⟨by omega, Int.lt_of_lt_of_le (b := 6) (by omega) (by decide)⟩ (by first | exact hr1 _ _ | exact hw.2.2.1 _ _ | exact hr0 _ _ | assumption | omega | exact ⟨by omega, by omega⟩) ?_
        refine x_wf (fun hw => ?_)
        refine x_aload_n 247 C dX12_connects_246 rfl rfl ?_
        refine x_mrow 250 49 C fr_X12_128 dX12_connects_247 rfl rfl hM ?_
        refine x_iload 252 C dX12_connects_250 rfl rfl ?_
        refine x_iload_n 253 C dX12_connects_252 rfl rfl ?_
        refine x_mstZ 254 49 C dX12_connects_253 rfl rfl hM ⟨by omega, Int.lt_of_lt_of_le (b := 6) (by omega) (by decide)⟩ (by first | assumption | omega | exact bI_01 _ | exact hw.2.2.2.2.1 _ _ rfl | exact hz0 _ _ rfl) ?_
        refine x_wf (fun hw => ?_)
        refine x_aload_n 255 C dX12_connects_254 rfl rfl ?_
        refine x_mrow 258 50 C fr_X12_131 dX12_connects_255 rfl rfl hM ?_
        refine x_iload 260 C dX12_connects_258 rfl rfl ?_
        refine x_iload_n 261 C dX12_connects_260 rfl rfl ?_
        refine x_mstI 262 50 C dX12_connects_261 rfl rfl hM ⟨by omega, Int.lt_of_lt_of_le (b := 6) (by omega) (by decide)⟩ (by first | exact hr1 _ _ | exact hw.2.2.1 _ _ | exact hr0 _ _ | assumption | omega | exact ⟨by omega, by omega⟩) ?_
        refine x_wf (fun hw => ?_)
        refine x_aload_n 263 C dX12_connects_262 rfl rfl ?_
        refine x_dup 264 C dX12_connects_263 rfl rfl ?_
        refine x_mget 267 44 C fr_X12_241 dX12_connects_264 rfl rfl hM ?_
        (try simp only [u2r, false_and, and_false, true_and, and_true, ↓reduceIte, Nat.reduceEqDiff])
        refine x_iconst 268 C dX12_connects_267 rfl ?_
        refine x_iadd 269 C dX12_connects_268 rfl ?_
        refine x_mput 272 44 C fw_X12_241 dX12_connects_269 rfl rfl rfl hM (by first | exact hr1 _ _ | exact hw.2.2.1 _ _ | exact hr0 _ _ | assumption | omega | exact ⟨by omega, by omega⟩) (fun z => absurd z (by decide)) ?_
        refine x_wf (fun hw => ?_)
        refine x_aload_n 273 C dX12_connects_272 rfl rfl ?_
        refine x_dup 274 C dX12_connects_273 rfl rfl ?_
        refine x_mget 277 45 C fr_X12_251 dX12_connects_274 rfl rfl hM ?_
        (try simp only [u2r, false_and, and_false, true_and, and_true, ↓reduceIte, Nat.reduceEqDiff])
        refine x_iconst 278 C dX12_connects_277 rfl ?_
        refine x_iadd 279 C dX12_connects_278 rfl ?_
        refine x_mput 282 45 C fw_X12_251 dX12_connects_279 rfl rfl rfl hM (by first | exact hr1 _ _ | exact hw.2.2.1 _ _ | exact hr0 _ _ | assumption | omega | exact ⟨by omega, by omega⟩) (fun z => absurd z (by decide)) ?_
        refine x_wf (fun hw => ?_)
        refine x_aload_n 283 C dX12_connects_282 rfl rfl ?_
        refine x_mrow 286 51 C fr_X12_134 dX12_connects_283 rfl rfl hM ?_
        refine x_iload 288 C dX12_connects_286 rfl rfl ?_
        refine x_aload_n 289 C dX12_connects_288 rfl rfl ?_
        refine x_mget 292 0 C fr_X12_244 dX12_connects_289 rfl rfl hM ?_
        (try simp only [u2r, false_and, and_false, true_and, and_true, ↓reduceIte, Nat.reduceEqDiff])
        refine x_mstI 293 51 C dX12_connects_292 rfl rfl hM ⟨by omega, Int.lt_of_lt_of_le (b := 6) (by omega) (by decide)⟩ (by first | exact hr1 _ _ | exact hw.2.2.1 _ _ | exact hr0 _ _ | assumption | omega | exact ⟨by omega, by omega⟩) ?_
        refine x_wf (fun hw => ?_)
        refine x_aload_n 294 C dX12_connects_293 rfl rfl ?_
        refine x_mrow 297 52 C fr_X12_137 dX12_connects_294 rfl rfl hM ?_
        refine x_iload 299 C dX12_connects_297 rfl rfl ?_
        refine x_aload_n 300 C dX12_connects_299 rfl rfl ?_
        refine x_mget 303 1 C fr_X12_254 dX12_connects_300 rfl rfl hM ?_
        (try simp only [u2r, false_and, and_false, true_and, and_true, ↓reduceIte, Nat.reduceEqDiff])
        refine x_mstI 304 52 C dX12_connects_303 rfl rfl hM ⟨by omega, Int.lt_of_lt_of_le (b := 6) (by omega) (by decide)⟩ (by first | exact hr1 _ _ | exact hw.2.2.1 _ _ | exact hr0 _ _ | assumption | omega | exact ⟨by omega, by omega⟩) ?_
        refine x_wf (fun hw => ?_)
        refine x_aload_n 305 C dX12_connects_304 rfl rfl ?_
        refine x_dup 306 C dX12_connects_305 rfl rfl ?_
        refine x_mget 309 1 C fr_X12_254 dX12_connects_306 rfl rfl hM ?_
        (try simp only [u2r, false_and, and_false, true_and, and_true, ↓reduceIte, Nat.reduceEqDiff])
        refine x_iconst 310 C dX12_connects_309 rfl ?_
        refine x_iadd 311 C dX12_connects_310 rfl ?_
        refine x_mput 314 1 C fw_X12_254 dX12_connects_311 rfl rfl rfl hM (by first | exact hr1 _ _ | exact hw.2.2.1 _ _ | exact hr0 _ _ | assumption | omega | exact ⟨by omega, by omega⟩) (fun z => absurd z (by decide)) ?_
        refine x_wf (fun hw => ?_)
        exact x_ret C dX12_connects_314 ⟨rfl, congrArg (wR G) (by first | rfl | (simp [bI, rConR, rTouch, rAddLine, u2r, h15, h199]; done) | (simp [bI, rConR, rTouch, rAddLine, u2r, h15, h199] <;> omega) | (exfalso; simp_all; done))⟩
    · skip
      have ef : f = rCF R a cr w := by rw [i3, show k = R 44 0 by omega]; rfl
      have ed : d = rCO R := by rw [i4, show k = R 44 0 by omega]; rfl
      refine x_iload 142 C dX12_connects_140 rfl rfl ?_
      refine x_iconst 143 C dX12_connects_142 rfl ?_
      refine x_icmp_eq 146 175 C dX12_connects_143 rfl (by decide) (by first | exact hr1 _ _ | exact hw.2.2.1 _ _ | exact hr0 _ _ | assumption | omega | exact ⟨by omega, by omega⟩) (by first | exact hr1 _ _ | exact hw.2.2.1 _ _ | exact hr0 _ _ | assumption | omega | exact ⟨by omega, by omega⟩) (fun h143 => ?_) (fun h143 => ?_)
      · skip
        refine x_iload 177 C dX12_connects_175 rfl rfl ?_
        refine x_iconst 178 C dX12_connects_177 rfl ?_
        refine x_icmp_ne 181 196 C dX12_connects_178 rfl (by decide) (by first | exact hr1 _ _ | exact hw.2.2.1 _ _ | exact hr0 _ _ | assumption | omega | exact ⟨by omega, by omega⟩) (by first | exact hr1 _ _ | exact hw.2.2.1 _ _ | exact hr0 _ _ | assumption | omega | exact ⟨by omega, by omega⟩) (fun h178 => ?_) (fun h178 => ?_)
        · skip
          first | (exfalso; omega) | exact x_as (congrArg (wR G) (by rw [rCR1, if_neg (by rw [← ef]; omega), if_neg (by rw [← ef]; omega)])) rfl rfl (hJ196 _ (by rw [rCV, if_neg (by rw [← ef]; omega), ← ef])) | exact x_as (congrArg (wR G) (by simp [rCR1, ← ef, ← ed, bI, h143, h178])) rfl rfl (hJ196 _ (by simp [rCV, ← ef, bI, h143, h178]))
        · skip
          refine x_aload_n 182 C dX12_connects_181 rfl rfl ?_
          refine x_mget 185 44 C fr_X12_241 dX12_connects_182 rfl rfl hM ?_
          refine x_bipush 187 C dX12_connects_185 rfl (by decide) ?_
          refine x_icmp_ne 190 196 C dX12_connects_187 rfl (by decide) (by first | exact hr1 _ _ | exact hw.2.2.1 _ _ | exact hr0 _ _ | assumption | omega | exact ⟨by omega, by omega⟩) (by first | exact hr1 _ _ | exact hw.2.2.1 _ _ | exact hr0 _ _ | assumption | omega | exact ⟨by omega, by omega⟩) (fun h187 => ?_) (fun h187 => ?_)
          · skip
            first | (exfalso; omega) | exact x_as (congrArg (wR G) (by rw [rCR1, if_neg (by rw [← ef]; omega), if_neg (by rw [← ef]; omega)])) rfl rfl (hJ196 _ (by rw [rCV, if_neg (by rw [← ef]; omega), ← ef])) | exact x_as (congrArg (wR G) (by simp [rCR1, ← ef, ← ed, bI, h143, h178, h187])) rfl rfl (hJ196 _ (by simp [rCV, ← ef, bI, h143, h178, h187]))
          · skip
            refine x_aload_n 191 C dX12_connects_190 rfl rfl ?_
            refine x_iload 193 C dX12_connects_191 rfl rfl ?_
            refine x_Vv (As := [_]) 196 C vw_X12_247 iw_X12_closes sw_X12_closes (c_X12_closes hM (by omega) hL.1) dX12_connects_193 rfl rfl rfl rfl rfl rfl hM.1 ⟨Nat.le_of_ble_eq_true rfl, Nat.le_of_ble_eq_true rfl⟩ (Nat.le_of_ble_eq_true rfl) ?_
            refine x_wf (fun hw => ?_)
            first | (exfalso; omega) | exact x_as (congrArg (wR G) (by rw [rCR1, if_neg (by rw [← ef]; omega), if_neg (by rw [← ef]; omega)])) rfl rfl (hJ196 _ (by rw [rCV, if_neg (by rw [← ef]; omega), ← ef])) | exact x_as (congrArg (wR G) (by simp [rCR1, ← ef, ← ed, bI, h143, h178, h187])) rfl rfl (hJ196 _ (by simp [rCV, ← ef, bI, h143, h178, h187]))
      · skip
        have hlt := hL.2 f.toNat
        have hlr := hr0 51 f.toNat
        refine x_aload_n 147 C dX12_connects_146 rfl rfl ?_
        refine x_mget 150 0 C fr_X12_244 dX12_connects_147 rfl rfl hM ?_
        refine x_aload_n 151 C dX12_connects_150 rfl rfl ?_
        refine x_mrow 154 51 C fr_X12_134 dX12_connects_151 rfl rfl hM ?_
        refine x_iload 156 C dX12_connects_154 rfl rfl ?_
        refine x_mldI 157 51 C dX12_connects_156 rfl rfl hM (by first | exact hIx | exact ⟨by omega, Int.lt_of_lt_of_le (b := 6) (by omega) (by decide)⟩) ?_
        refine x_isub 158 C dX12_connects_157 rfl ?_
        refine x_bipush 160 C dX12_connects_158 rfl (by decide) ?_
        refine x_icmp_le 163 175 C dX12_connects_160 rfl (by decide) (by first | exact hr1 _ _ | exact hw.2.2.1 _ _ | exact hr0 _ _ | assumption | omega | exact ⟨by omega, by omega⟩) (by first | exact hr1 _ _ | exact hw.2.2.1 _ _ | exact hr0 _ _ | assumption | omega | exact ⟨by omega, by omega⟩) (fun h160 => ?_) (fun h160 => ?_)
        · skip
          refine x_iload 177 C dX12_connects_175 rfl rfl ?_
          refine x_iconst 178 C dX12_connects_177 rfl ?_
          refine x_icmp_ne 181 196 C dX12_connects_178 rfl (by decide) (by first | exact hr1 _ _ | exact hw.2.2.1 _ _ | exact hr0 _ _ | assumption | omega | exact ⟨by omega, by omega⟩) (by first | exact hr1 _ _ | exact hw.2.2.1 _ _ | exact hr0 _ _ | assumption | omega | exact ⟨by omega, by omega⟩) (fun h178 => ?_) (fun h178 => ?_)
          · skip
            first | (exfalso; omega) | exact x_as (congrArg (wR G) (by rw [rCR1, if_neg (by rw [← ef]; omega), if_neg (by rw [← ef]; omega)])) rfl rfl (hJ196 _ (by rw [rCV, if_neg (by rw [← ef]; omega), ← ef])) | exact x_as (congrArg (wR G) (by simp [rCR1, ← ef, ← ed, bI, h143, h160, h178])) rfl rfl (hJ196 _ (by simp [rCV, ← ef, bI, h143, h160, h178]))
          · skip
            refine x_aload_n 182 C dX12_connects_181 rfl rfl ?_
            refine x_mget 185 44 C fr_X12_241 dX12_connects_182 rfl rfl hM ?_
            refine x_bipush 187 C dX12_connects_185 rfl (by decide) ?_
            refine x_icmp_ne 190 196 C dX12_connects_187 rfl (by decide) (by first | exact hr1 _ _ | exact hw.2.2.1 _ _ | exact hr0 _ _ | assumption | omega | exact ⟨by omega, by omega⟩) (by first | exact hr1 _ _ | exact hw.2.2.1 _ _ | exact hr0 _ _ | assumption | omega | exact ⟨by omega, by omega⟩) (fun h187 => ?_) (fun h187 => ?_)
            · skip
              first | (exfalso; omega) | exact x_as (congrArg (wR G) (by rw [rCR1, if_neg (by rw [← ef]; omega), if_neg (by rw [← ef]; omega)])) rfl rfl (hJ196 _ (by rw [rCV, if_neg (by rw [← ef]; omega), ← ef])) | exact x_as (congrArg (wR G) (by simp [rCR1, ← ef, ← ed, bI, h143, h160, h178, h187])) rfl rfl (hJ196 _ (by simp [rCV, ← ef, bI, h143, h160, h178, h187]))
            · skip
              refine x_aload_n 191 C dX12_connects_190 rfl rfl ?_
              refine x_iload 193 C dX12_connects_191 rfl rfl ?_
              refine x_Vv (As := [_]) 196 C vw_X12_247 iw_X12_closes sw_X12_closes (c_X12_closes hM (by omega) hL.1) dX12_connects_193 rfl rfl rfl rfl rfl rfl hM.1 ⟨Nat.le_of_ble_eq_true rfl, Nat.le_of_ble_eq_true rfl⟩ (Nat.le_of_ble_eq_true rfl) ?_
              refine x_wf (fun hw => ?_)
              first | (exfalso; omega) | exact x_as (congrArg (wR G) (by rw [rCR1, if_neg (by rw [← ef]; omega), if_neg (by rw [← ef]; omega)])) rfl rfl (hJ196 _ (by rw [rCV, if_neg (by rw [← ef]; omega), ← ef])) | exact x_as (congrArg (wR G) (by simp [rCR1, ← ef, ← ed, bI, h143, h160, h178, h187])) rfl rfl (hJ196 _ (by simp [rCV, ← ef, bI, h143, h160, h178, h187]))
        · skip
          refine x_aload_n 164 C dX12_connects_163 rfl rfl ?_
          refine x_iload 166 C dX12_connects_164 rfl rfl ?_
          refine x_Vv (As := [_]) 169 C vw_X12_247 iw_X12_closes sw_X12_closes (c_X12_closes hM (by omega) hL.1) dX12_connects_166 rfl rfl rfl rfl rfl rfl hM.1 ⟨Nat.le_of_ble_eq_true rfl, Nat.le_of_ble_eq_true rfl⟩ (Nat.le_of_ble_eq_true rfl) ?_
          refine x_wf (fun hw => ?_)
          refine x_iconst 170 C dX12_connects_169 rfl ?_
          refine x_istore 172 C dX12_connects_170 rfl rfl rfl ?_
          refine x_goto 196 C dX12_connects_172 (by decide) ?_
          first | (exfalso; omega) | exact x_as (congrArg (wR G) (by rw [rCR1, if_neg (by rw [← ef]; omega), if_neg (by rw [← ef]; omega)])) rfl rfl (hJ196 _ (by rw [rCV, if_neg (by rw [← ef]; omega), ← ef])) | exact x_as (congrArg (wR G) (by simp [rCR1, ← ef, ← ed, bI, h143, h160])) rfl rfl (hJ196 _ (by simp [rCV, ← ef, bI, h143, h160]))
  · skip
    refine x_joinv 92 (fun vJ => vJ = bI (rLineIs R a cr w k.toNat)) ?_ (fun hJ92 => ?_)
    · intro vJ hJ
      subst hJ
      refine x_istore 94 C dX12_connects_92 rfl rfl rfl ?_
      refine x_joinv 106 (fun vJ => vJ = if rLineIs R a cr w k.toNat = true then k else f) ?_ (fun hJ106 => ?_)
      · intro vJ hJ
        subst hJ
        refine x_istore 108 C dX12_connects_106 rfl rfl rfl ?_
        refine x_joinv 132 (fun vJ => vJ = if R 52 k.toNat < R 52 d.toNat then k else d) ?_ (fun hJ132 => ?_)
        · intro vJ hJ
          subst hJ
          refine x_istore 134 C dX12_connects_132 rfl rfl rfl ?_
          refine x_iinc 137 C dX12_connects_134 rfl rfl rfl rfl ?_
          refine x_goto 9 C dX12_connects_137 (by decide) ?_
          have e1 : (if rLineIs R a cr w k.toNat = true then k else f) = rConF R a cr w (k + 1).toNat := by rw [show (k + 1).toNat = k.toNat + 1 by omega, rConF, ek, ← i3]
          have e2 : (if R 52 k.toNat < R 52 d.toNat then k else d) = rOldF R (k + 1).toNat := by rw [show (k + 1).toNat = k.toNat + 1 by omega, rOldF, ek, ← i4]
          exact ih (if rLineIs R a cr w k.toNat = true then k else f, if R 52 k.toNat < R 52 d.toNat then k else d, k + 1, some (.int (i32 (bI (rLineIs R a cr w k.toNat))))) ⟨by dsimp only; omega, by dsimp only; omega, e1, e2⟩ (by dsimp only; omega)
        · skip
          refine x_aload_n 109 C dX12_connects_108 rfl rfl ?_
          refine x_mrow 112 52 C fr_X12_137 dX12_connects_109 rfl rfl hM ?_
          refine x_iload 114 C dX12_connects_112 rfl rfl ?_
          refine x_mldI 115 52 C dX12_connects_114 rfl rfl hM (by first | exact hIx | exact ⟨by omega, Int.lt_of_lt_of_le (b := 6) (by omega) (by decide)⟩) ?_
          refine x_aload_n 116 C dX12_connects_115 rfl rfl ?_
          refine x_mrow 119 52 C fr_X12_137 dX12_connects_116 rfl rfl hM ?_
          refine x_iload 121 C dX12_connects_119 rfl rfl ?_
          refine x_mldI 122 52 C dX12_connects_121 rfl rfl hM (by first | exact hIx | exact ⟨by omega, Int.lt_of_lt_of_le (b := 6) (by omega) (by decide)⟩) ?_
          refine x_icmp_ge 125 130 C dX12_connects_122 rfl (by decide) (by first | exact hr1 _ _ | exact hw.2.2.1 _ _ | exact hr0 _ _ | assumption | omega | exact ⟨by omega, by omega⟩) (by first | exact hr1 _ _ | exact hw.2.2.1 _ _ | exact hr0 _ _ | assumption | omega | exact ⟨by omega, by omega⟩) (fun h122 => ?_) (fun h122 => ?_)
          · skip
            refine x_iload 132 C dX12_connects_130 rfl rfl ?_
            exact hJ132 _ (by first | (simp [bI, h122]; done) | (simp [bI, h122]; omega) | (simp [bI, h122] at *; omega))
          · skip
            refine x_iload 127 C dX12_connects_125 rfl rfl ?_
            refine x_goto 132 C dX12_connects_127 (by decide) ?_
            exact hJ132 _ (by first | (simp [bI, h122]; done) | (simp [bI, h122]; omega) | (simp [bI, h122] at *; omega))
      · skip
        refine x_iload 96 C dX12_connects_94 rfl rfl ?_
        refine x_if_eqB 99 104 C dX12_connects_96 rfl (by decide) (fun h96 => ?_) (fun h96 => ?_)
        · skip
          refine x_iload 106 C dX12_connects_104 rfl rfl ?_
          exact hJ106 _ (by first | (simp [bI, h96]; done) | (simp [bI, h96]; omega) | (simp [bI, h96] at *; omega))
        · skip
          refine x_iload 101 C dX12_connects_99 rfl rfl ?_
          refine x_goto 106 C dX12_connects_101 (by decide) ?_
          exact hJ106 _ (by first | (simp [bI, h96]; done) | (simp [bI, h96]; omega) | (simp [bI, h96] at *; omega))
    · skip
      refine x_aload_n 19 C dX12_connects_18 rfl rfl ?_
      refine x_mrow 22 46 C fr_X12_119 dX12_connects_19 rfl rfl hM ?_
      refine x_iload 24 C dX12_connects_22 rfl rfl ?_
      refine x_mldI 25 46 C dX12_connects_24 rfl rfl hM (by first | exact hIx | exact ⟨by omega, Int.lt_of_lt_of_le (b := 6) (by omega) (by decide)⟩) ?_
      refine x_aload_n 26 C dX12_connects_25 rfl rfl ?_
      refine x_mrow 29 8 C fr_X12_20 dX12_connects_26 rfl rfl hM ?_
      refine x_iload_n 30 C dX12_connects_29 rfl rfl ?_
      refine x_mldI 31 8 C dX12_connects_30 rfl rfl hM (by first | exact hIx | exact ⟨by omega, Int.lt_of_lt_of_le (b := 24) (by omega) (by decide)⟩) ?_
      refine x_icmp_ne 34 91 C dX12_connects_31 rfl (by decide) (by first | exact hr1 _ _ | exact hw.2.2.1 _ _ | exact hr0 _ _ | assumption | omega | exact ⟨by omega, by omega⟩) (by first | exact hr1 _ _ | exact hw.2.2.1 _ _ | exact hr0 _ _ | assumption | omega | exact ⟨by omega, by omega⟩) (fun h31 => ?_) (fun h31 => ?_)
      · skip
        refine x_iconst 92 C dX12_connects_91 rfl ?_
        exact hJ92 _ (by first | (simp [bI, rLineIs, h31]; done) | (simp [bI, rLineIs, h31]; omega) | (simp [bI, rLineIs, h31] at *; omega))
      · skip
        refine x_aload_n 35 C dX12_connects_34 rfl rfl ?_
        refine x_mrow 38 47 C fr_X12_122 dX12_connects_35 rfl rfl hM ?_
        refine x_iload 40 C dX12_connects_38 rfl rfl ?_
        refine x_mldI 41 47 C dX12_connects_40 rfl rfl hM (by first | exact hIx | exact ⟨by omega, Int.lt_of_lt_of_le (b := 6) (by omega) (by decide)⟩) ?_
        refine x_aload_n 42 C dX12_connects_41 rfl rfl ?_
        refine x_mrow 45 9 C fr_X12_23 dX12_connects_42 rfl rfl hM ?_
        refine x_iload_n 46 C dX12_connects_45 rfl rfl ?_
        refine x_mldI 47 9 C dX12_connects_46 rfl rfl hM (by first | exact hIx | exact ⟨by omega, Int.lt_of_lt_of_le (b := 24) (by omega) (by decide)⟩) ?_
        refine x_icmp_ne 50 91 C dX12_connects_47 rfl (by decide) (by first | exact hr1 _ _ | exact hw.2.2.1 _ _ | exact hr0 _ _ | assumption | omega | exact ⟨by omega, by omega⟩) (by first | exact hr1 _ _ | exact hw.2.2.1 _ _ | exact hr0 _ _ | assumption | omega | exact ⟨by omega, by omega⟩) (fun h47 => ?_) (fun h47 => ?_)
        · skip
          refine x_iconst 92 C dX12_connects_91 rfl ?_
          exact hJ92 _ (by first | (simp [bI, rLineIs, h31, h47]; done) | (simp [bI, rLineIs, h31, h47]; omega) | (simp [bI, rLineIs, h31, h47] at *; omega))
        · skip
          refine x_aload_n 51 C dX12_connects_50 rfl rfl ?_
          refine x_mrow 54 48 C fr_X12_125 dX12_connects_51 rfl rfl hM ?_
          refine x_iload 56 C dX12_connects_54 rfl rfl ?_
          refine x_mldI 57 48 C dX12_connects_56 rfl rfl hM (by first | exact hIx | exact ⟨by omega, Int.lt_of_lt_of_le (b := 6) (by omega) (by decide)⟩) ?_
          refine x_aload_n 58 C dX12_connects_57 rfl rfl ?_
          refine x_iload_n 59 C dX12_connects_58 rfl rfl ?_
          refine x_Vr (As := [_]) 62 C vw_X12_235 iw_X12_gate sw_X12_gate (c_X12_gate hM hA (by omega)) dX12_connects_59 rfl rfl rfl rfl rfl rfl hM.1 ⟨Nat.le_of_ble_eq_true rfl, Nat.le_of_ble_eq_true rfl⟩ (Nat.le_of_ble_eq_true rfl) ?_
          refine x_icmp_ne 65 91 C dX12_connects_62 rfl (by decide) (by first | exact hr1 _ _ | exact hw.2.2.1 _ _ | exact hr0 _ _ | assumption | omega | exact ⟨by omega, by omega⟩) (by first | exact hr1 _ _ | exact hw.2.2.1 _ _ | exact hr0 _ _ | assumption | omega | exact ⟨by omega, by omega⟩) (fun h62 => ?_) (fun h62 => ?_)
          · skip
            refine x_iconst 92 C dX12_connects_91 rfl ?_
            exact hJ92 _ (by first | (simp [bI, rLineIs, h31, h47, h62]; done) | (simp [bI, rLineIs, h31, h47, h62]; omega) | (simp [bI, rLineIs, h31, h47, h62] at *; omega))
          · skip
            refine x_aload_n 66 C dX12_connects_65 rfl rfl ?_
            refine x_mrow 69 49 C fr_X12_128 dX12_connects_66 rfl rfl hM ?_
            refine x_iload 71 C dX12_connects_69 rfl rfl ?_
            refine x_mldZ 72 49 C dX12_connects_71 rfl rfl hM (by first | exact hIx | exact ⟨by omega, Int.lt_of_lt_of_le (b := 6) (by omega) (by decide)⟩) ?_
            refine x_iload_n 73 C dX12_connects_72 rfl rfl ?_
            refine x_icmp_ne 76 91 C dX12_connects_73 rfl (by decide) (by first | exact hr1 _ _ | exact hw.2.2.1 _ _ | exact hr0 _ _ | assumption | omega | exact ⟨by omega, by omega⟩) (by first | exact hr1 _ _ | exact hw.2.2.1 _ _ | exact hr0 _ _ | assumption | omega | exact ⟨by omega, by omega⟩) (fun h73 => ?_) (fun h73 => ?_)
            · skip
              refine x_iconst 92 C dX12_connects_91 rfl ?_
              exact hJ92 _ (by first | (simp [bI, rLineIs, h31, h47, h62, h73]; done) | (simp [bI, rLineIs, h31, h47, h62, h73]; omega) | (simp [bI, rLineIs, h31, h47, h62, h73] at *; omega))
            · skip
              refine x_aload_n 77 C dX12_connects_76 rfl rfl ?_
              refine x_mrow 80 50 C fr_X12_131 dX12_connects_77 rfl rfl hM ?_
              refine x_iload 82 C dX12_connects_80 rfl rfl ?_
              refine x_mldI 83 50 C dX12_connects_82 rfl rfl hM (by first | exact hIx | exact ⟨by omega, Int.lt_of_lt_of_le (b := 6) (by omega) (by decide)⟩) ?_
              refine x_iload_n 84 C dX12_connects_83 rfl rfl ?_
              refine x_icmp_ne 87 91 C dX12_connects_84 rfl (by decide) (by first | exact hr1 _ _ | exact hw.2.2.1 _ _ | exact hr0 _ _ | assumption | omega | exact ⟨by omega, by omega⟩) (by first | exact hr1 _ _ | exact hw.2.2.1 _ _ | exact hr0 _ _ | assumption | omega | exact ⟨by omega, by omega⟩) (fun h84 => ?_) (fun h84 => ?_)
              · skip
                refine x_iconst 92 C dX12_connects_91 rfl ?_
                exact hJ92 _ (by first | (simp [bI, rLineIs, h31, h47, h62, h73, h84]; done) | (simp [bI, rLineIs, h31, h47, h62, h73, h84]; omega) | (simp [bI, rLineIs, h31, h47, h62, h73, h84] at *; omega))
              · skip
                refine x_iconst 88 C dX12_connects_87 rfl ?_
                refine x_goto 92 C dX12_connects_88 (by decide) ?_
                exact hJ92 _ (by first | (simp [bI, rLineIs, h31, h47, h62, h73, h84]; done) | (simp [bI, rLineIs, h31, h47, h62, h73, h84]; omega) | (simp [bI, rLineIs, h31, h47, h62, h73, h84] at *; omega))
