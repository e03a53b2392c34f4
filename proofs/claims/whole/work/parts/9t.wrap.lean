/-! the law's own methods: what the program answers, or which exception it threw (wip/tools/genl.py) -/
theorem nc_AI : ("java/lang/IllegalArgumentException", "java/lang/IndexOutOfBoundsException") ∈ ncx := List.mem_cons_self
theorem nc_SI : ("java/lang/IllegalStateException", "java/lang/IndexOutOfBoundsException") ∈ ncx := List.mem_cons_of_mem _ List.mem_cons_self
theorem nc_SA : ("java/lang/IllegalStateException", "java/lang/IllegalArgumentException") ∈ ncx := List.mem_cons_of_mem _ (List.mem_cons_of_mem _ List.mem_cons_self)
theorem nc_IA : ("java/lang/IndexOutOfBoundsException", "java/lang/IllegalArgumentException") ∈ ncx := List.mem_cons_of_mem _ (List.mem_cons_of_mem _ (List.mem_cons_of_mem _ List.mem_cons_self))
def rkWp (G : GT) (out : Nat) (code val : Int) (P1 : GT → Prop) : Option Value → GT → Prop := fun v G' => v = some (.int (i32 code)) ∧ ((code = 0 ∧ ∃ G1, P1 G1 ∧ G' = sA G1 out 0 val) ∨ (¬ code = 0 ∧ G' = G))
def rkWv (G : GT) (code : Int) (P1 : GT → Prop) : Option Value → GT → Prop := fun v G' => v = some (.int (i32 code)) ∧ ((code = 0 ∧ P1 G') ∨ (¬ code = 0 ∧ G' = G))
set_option maxHeartbeats 2000000 in
set_option maxRecDepth 100000 in
theorem c_L_address {E : EV} {l : Launch} {G : GT} {x : Nat} {p0 p1 p2 p3 : Int} {code val : Int} {out : Nat} {P1 : GT → Prop} (hk : gK G x = 14) (hM : MX E l yX11_address cX11_address 6 (some .int) 10 248 68 10086 [.ref x, .int (i32 p0), .int (i32 p1), .int (i32 p2), .int (i32 p3)] G (fun v G' => v = some (.int (i32 val)) ∧ code = 0 ∧ P1 G') (fun nx G' => G' = G ∧ rkX nx code)) (hK1 : ∀ G', P1 G' → gK G' out = 26) (hv : InR val) (hc : code ≤ 3) : MH E l yL_address cL_address 7 (some .int) hhL_address 11 273 68 10086 [.ref x, .int (i32 p0), .int (i32 p1), .int (i32 p2), .int (i32 p3), .ref out] G (rkWp G out code val P1) := by
  refine mh_of (own := RL) (L := [some (.ref x), some (.int (i32 p0)), some (.int (i32 p1)), some (.int (i32 p2)), some (.int (i32 p3)), some (.ref out), none]) (by decide +kernel) rfl (Nat.le_of_ble_eq_true rfl) (List.forall_mem_cons.mpr ⟨rfl, (List.forall_mem_cons.mpr ⟨rfl, (List.forall_mem_cons.mpr ⟨rfl, (List.forall_mem_cons.mpr ⟨rfl, (List.forall_mem_cons.mpr ⟨rfl, (List.forall_mem_cons.mpr ⟨rfl, (fun _ h => absurd h List.not_mem_nil)⟩)⟩)⟩)⟩)⟩)⟩) rfl ?_
  intro p e s m args below meth c C htab
  refine x_aload 2 C dL_address_0 rfl rfl ?_
  refine x_iconst 3 C dL_address_2 rfl ?_
  refine x_aload_n 4 C dL_address_3 rfl rfl ?_
  refine x_iload_n 5 C dL_address_4 rfl rfl ?_
  refine x_iload_n 6 C dL_address_5 rfl rfl ?_
  refine x_iload_n 7 C dL_address_6 rfl rfl ?_
  refine x_iload 9 C dL_address_7 rfl rfl ?_
  refine x_callVC (As := [_, _, _, _]) 12 14 0 0 C vw_L_27 iw_X11_address sw_X11_address hM lk_L_27 dL_address_9 rfl rfl rfl rfl rfl rfl hk ⟨Nat.le_of_ble_eq_true rfl, Nat.le_of_ble_eq_true rfl⟩ (Nat.le_of_ble_eq_true rfl) ⟨by omega, by omega⟩ (fun nx G' hx => ?_) (fun v G' hq => ?_)
  · obtain ⟨rfl, hx⟩ := hx
    rcases hx with ⟨rfl, hx⟩ | ⟨rfl, hx⟩ | ⟨rfl, hx⟩
    · refine ⟨17, ⟨[], ⟨0, 14, 17, 13⟩, [⟨0, 14, 21, 15⟩, ⟨0, 14, 25, 17⟩], htab.trans rfl, (fun z hz => absurd hz List.not_mem_nil), by decide, by decide, ⟨_, kl_L_13, kn_L_13⟩, rfl⟩, fun q => ?_⟩
      refine x_astore 19 C dL_address_17 rfl rfl rfl ?_
      refine x_iconst 20 C dL_address_19 rfl ?_
      exact x_iret C dL_address_20 rfl ⟨vi hx.symm, Or.inr ⟨by omega, rfl⟩⟩
    · refine ⟨21, ⟨[⟨0, 14, 17, 13⟩], ⟨0, 14, 21, 15⟩, [⟨0, 14, 25, 17⟩], htab.trans rfl, (List.forall_mem_cons.mpr ⟨⟨by decide, _, kl_L_13, nc_AI⟩, (fun z hz => absurd hz List.not_mem_nil)⟩), by decide, by decide, ⟨_, kl_L_15, kn_L_15⟩, rfl⟩, fun q => ?_⟩
      refine x_astore 23 C dL_address_21 rfl rfl rfl ?_
      refine x_iconst 24 C dL_address_23 rfl ?_
      exact x_iret C dL_address_24 rfl ⟨vi hx.symm, Or.inr ⟨by omega, rfl⟩⟩
    · refine ⟨25, ⟨[⟨0, 14, 17, 13⟩, ⟨0, 14, 21, 15⟩], ⟨0, 14, 25, 17⟩, [], htab.trans rfl, (List.forall_mem_cons.mpr ⟨⟨by decide, _, kl_L_13, nc_SI⟩, (List.forall_mem_cons.mpr ⟨⟨by decide, _, kl_L_15, nc_SA⟩, (fun z hz => absurd hz List.not_mem_nil)⟩)⟩), by decide, by decide, ⟨_, kl_L_17, kn_L_17⟩, rfl⟩, fun q => ?_⟩
      refine x_astore 27 C dL_address_25 rfl rfl rfl ?_
      refine x_iconst 28 C dL_address_27 rfl ?_
      exact x_iret C dL_address_28 rfl ⟨vi hx.symm, Or.inr ⟨by omega, rfl⟩⟩
  · obtain ⟨rfl, hc0, hq⟩ := hq
    refine x_as rfl rfl rfl ?_
    refine x_i2l 13 C hv dL_address_12 rfl ?_
    refine x_last1 14 C (hK1 _ hq) hv dL_address_13 rfl ?_
    refine x_goto 29 C dL_address_14 (by decide) ?_
    refine x_iconst 30 C dL_address_29 rfl ?_
    exact x_iret C dL_address_30 rfl ⟨vi hc0.symm, Or.inl ⟨hc0, _, hq, rfl⟩⟩
set_option maxHeartbeats 2000000 in
set_option maxRecDepth 100000 in
theorem c_L_allow {E : EV} {l : Launch} {G : GT} {x : Nat} {p0 p1 p2 p3 p4 : Int} {code : Int} {P1 : GT → Prop} (hk : gK G x = 14) (hM : MX E l yX11_allow cX11_allow 9 none 7 105 3 18 [.ref x, .int (i32 p0), .int (i32 p1), .int (i32 p2), .int (i32 p3), .int (i32 p4)] G (fun v G' => v = none ∧ code = 0 ∧ P1 G') (fun nx G' => G' = G ∧ rkX nx code)) (hc : code ≤ 2) : MH E l yL_allow cL_allow 7 (some .int) hhL_allow 8 133 3 18 [.ref x, .int (i32 p0), .int (i32 p1), .int (i32 p2), .int (i32 p3), .int (i32 p4)] G (rkWv G code P1) := by
  refine mh_of (own := RL) (L := [some (.ref x), some (.int (i32 p0)), some (.int (i32 p1)), some (.int (i32 p2)), some (.int (i32 p3)), some (.int (i32 p4)), none]) (by decide +kernel) rfl (Nat.le_of_ble_eq_true rfl) (List.forall_mem_cons.mpr ⟨rfl, (List.forall_mem_cons.mpr ⟨rfl, (List.forall_mem_cons.mpr ⟨rfl, (List.forall_mem_cons.mpr ⟨rfl, (List.forall_mem_cons.mpr ⟨rfl, (List.forall_mem_cons.mpr ⟨rfl, (fun _ h => absurd h List.not_mem_nil)⟩)⟩)⟩)⟩)⟩)⟩) rfl ?_
  intro p e s m args below meth c C htab
  refine x_aload_n 1 C dL_allow_0 rfl rfl ?_
  refine x_iload_n 2 C dL_allow_1 rfl rfl ?_
  refine x_iload_n 3 C dL_allow_2 rfl rfl ?_
  refine x_iload_n 4 C dL_allow_3 rfl rfl ?_
  refine x_iload 6 C dL_allow_4 rfl rfl ?_
  refine x_iload 8 C dL_allow_6 rfl rfl ?_
  refine x_callVC (As := [_, _, _, _, _]) 11 14 0 0 C vw_L_43 iw_X11_allow sw_X11_allow hM lk_L_43 dL_allow_8 rfl rfl rfl rfl rfl rfl hk ⟨Nat.le_of_ble_eq_true rfl, Nat.le_of_ble_eq_true rfl⟩ (Nat.le_of_ble_eq_true rfl) ⟨by omega, by omega⟩ (fun nx G' hx => ?_) (fun v G' hq => ?_)
  · obtain ⟨rfl, hx⟩ := hx
    rcases hx with ⟨rfl, hx⟩ | ⟨rfl, hx⟩ | ⟨rfl, hx⟩
    · refine ⟨14, ⟨[], ⟨0, 11, 14, 13⟩, [⟨0, 11, 18, 15⟩], htab.trans rfl, (fun z hz => absurd hz List.not_mem_nil), by decide, by decide, ⟨_, kl_L_13, kn_L_13⟩, rfl⟩, fun q => ?_⟩
      refine x_astore 16 C dL_allow_14 rfl rfl rfl ?_
      refine x_iconst 17 C dL_allow_16 rfl ?_
      exact x_iret C dL_allow_17 rfl ⟨vi hx.symm, Or.inr ⟨by omega, rfl⟩⟩
    · refine ⟨18, ⟨[⟨0, 11, 14, 13⟩], ⟨0, 11, 18, 15⟩, [], htab.trans rfl, (List.forall_mem_cons.mpr ⟨⟨by decide, _, kl_L_13, nc_AI⟩, (fun z hz => absurd hz List.not_mem_nil)⟩), by decide, by decide, ⟨_, kl_L_15, kn_L_15⟩, rfl⟩, fun q => ?_⟩
      refine x_astore 20 C dL_allow_18 rfl rfl rfl ?_
      refine x_iconst 21 C dL_allow_20 rfl ?_
      exact x_iret C dL_allow_21 rfl ⟨vi hx.symm, Or.inr ⟨by omega, rfl⟩⟩
    · exact absurd hc (by omega)
  · obtain ⟨rfl, hc0, hq⟩ := hq
    refine x_as rfl rfl rfl ?_
    refine x_goto 22 C dL_allow_11 (by decide) ?_
    refine x_iconst 23 C dL_allow_22 rfl ?_
    exact x_iret C dL_allow_23 rfl ⟨vi hc0.symm, Or.inl ⟨hc0, hq⟩⟩
set_option maxHeartbeats 2000000 in
set_option maxRecDepth 100000 in
theorem c_L_cookie {E : EV} {l : Launch} {G : GT} {x : Nat} {p0 : Int} {code val : Int} {out : Nat} {P1 : GT → Prop} (hk : gK G x = 14) (hM : MX E l yX11_cookie cX11_cookie 4 (some .int) 6 84 1 6 [.ref x, .int (i32 p0)] G (fun v G' => v = some (.int (i32 val)) ∧ code = 0 ∧ P1 G') (fun nx G' => G' = G ∧ rkX nx code)) (hK1 : ∀ G', P1 G' → gK G' out = 26) (hv : InR val) (hc : code ≤ 1) : MH E l yL_cookie cL_cookie 4 (some .int) hhL_cookie 7 107 1 6 [.ref x, .int (i32 p0), .ref out] G (rkWp G out code val P1) := by
  refine mh_of (own := RL) (L := [some (.ref x), some (.int (i32 p0)), some (.ref out), none]) (by decide +kernel) rfl (Nat.le_of_ble_eq_true rfl) (List.forall_mem_cons.mpr ⟨rfl, (List.forall_mem_cons.mpr ⟨rfl, (List.forall_mem_cons.mpr ⟨rfl, (fun _ h => absurd h List.not_mem_nil)⟩)⟩)⟩) rfl ?_
  intro p e s m args below meth c C htab
  refine x_aload_n 1 C dL_cookie_0 rfl rfl ?_
  refine x_iconst 2 C dL_cookie_1 rfl ?_
  refine x_aload_n 3 C dL_cookie_2 rfl rfl ?_
  refine x_iload_n 4 C dL_cookie_3 rfl rfl ?_
  refine x_callVC (As := [_]) 7 14 0 0 C vw_L_74 iw_X11_cookie sw_X11_cookie hM lk_L_74 dL_cookie_4 rfl rfl rfl rfl rfl rfl hk ⟨Nat.le_of_ble_eq_true rfl, Nat.le_of_ble_eq_true rfl⟩ (Nat.le_of_ble_eq_true rfl) ⟨by omega, by omega⟩ (fun nx G' hx => ?_) (fun v G' hq => ?_)
  · obtain ⟨rfl, hx⟩ := hx
    rcases hx with ⟨rfl, hx⟩ | ⟨rfl, hx⟩ | ⟨rfl, hx⟩
    · refine ⟨12, ⟨[], ⟨0, 9, 12, 13⟩, [], htab.trans rfl, (fun z hz => absurd hz List.not_mem_nil), by decide, by decide, ⟨_, kl_L_13, kn_L_13⟩, rfl⟩, fun q => ?_⟩
      refine x_astore_n 13 C dL_cookie_12 rfl rfl rfl ?_
      refine x_iconst 14 C dL_cookie_13 rfl ?_
      exact x_iret C dL_cookie_14 rfl ⟨vi hx.symm, Or.inr ⟨by omega, rfl⟩⟩
    · exact absurd hc (by omega)
    · exact absurd hc (by omega)
  · obtain ⟨rfl, hc0, hq⟩ := hq
    refine x_as rfl rfl rfl ?_
    refine x_i2l 8 C hv dL_cookie_7 rfl ?_
    refine x_last1 9 C (hK1 _ hq) hv dL_cookie_8 rfl ?_
    refine x_goto 15 C dL_cookie_9 (by decide) ?_
    refine x_iconst 16 C dL_cookie_15 rfl ?_
    exact x_iret C dL_cookie_16 rfl ⟨vi hc0.symm, Or.inl ⟨hc0, _, hq, rfl⟩⟩
set_option maxHeartbeats 2000000 in
set_option maxRecDepth 100000 in
theorem c_L_count {E : EV} {l : Launch} {G : GT} {x : Nat} {p0 : Int} {code val : Int} {out : Nat} {P1 : GT → Prop} (hk : gK G x = 14) (hM : MX E l yX11_count cX11_count 2 (some .int) 6 84 1 6 [.ref x, .int (i32 p0)] G (fun v G' => v = some (.int (i32 val)) ∧ code = 0 ∧ P1 G') (fun nx G' => G' = G ∧ nx = "java/lang/IllegalArgumentException" ∧ code = 1)) (hK1 : ∀ G', P1 G' → gK G' out = 26) (hv : InR val) : MH E l yL_count cL_count 4 (some .int) hhL_count 7 105 1 6 [.ref x, .int (i32 p0), .ref out] G (rkWp G out code val P1) := by
  refine mh_of (own := RL) (L := [some (.ref x), some (.int (i32 p0)), some (.ref out), none]) (by decide +kernel) rfl (Nat.le_of_ble_eq_true rfl) (List.forall_mem_cons.mpr ⟨rfl, (List.forall_mem_cons.mpr ⟨rfl, (List.forall_mem_cons.mpr ⟨rfl, (fun _ h => absurd h List.not_mem_nil)⟩)⟩)⟩) rfl ?_
  intro p e s m args below meth c C htab
  refine x_aload_n 1 C dL_count_0 rfl rfl ?_
  refine x_iconst 2 C dL_count_1 rfl ?_
  refine x_aload_n 3 C dL_count_2 rfl rfl ?_
  refine x_iload_n 4 C dL_count_3 rfl rfl ?_
  refine x_callVC (As := [_]) 7 14 0 0 C vw_L_77 iw_X11_count sw_X11_count hM lk_L_77 dL_count_4 rfl rfl rfl rfl rfl rfl hk ⟨Nat.le_of_ble_eq_true rfl, Nat.le_of_ble_eq_true rfl⟩ (Nat.le_of_ble_eq_true rfl) ⟨by omega, by omega⟩ (fun nx G' hx => ?_) (fun v G' hq => ?_)
  · obtain ⟨rfl, rfl, hx⟩ := hx
    refine ⟨12, ⟨[], ⟨0, 9, 12, 15⟩, [], htab.trans rfl, (fun z hz => absurd hz List.not_mem_nil), by decide, by decide, ⟨_, kl_L_15, kn_L_15⟩, rfl⟩, fun q => ?_⟩
    refine x_astore_n 13 C dL_count_12 rfl rfl rfl ?_
    refine x_iconst 14 C dL_count_13 rfl ?_
    exact x_iret C dL_count_14 rfl ⟨vi hx.symm, Or.inr ⟨by omega, rfl⟩⟩
  · obtain ⟨rfl, hc0, hq⟩ := hq
    refine x_as rfl rfl rfl ?_
    refine x_i2l 8 C hv dL_count_7 rfl ?_
    refine x_last1 9 C (hK1 _ hq) hv dL_count_8 rfl ?_
    refine x_goto 15 C dL_count_9 (by decide) ?_
    refine x_iconst 16 C dL_count_15 rfl ?_
    exact x_iret C dL_count_16 rfl ⟨vi hc0.symm, Or.inl ⟨hc0, _, hq, rfl⟩⟩
set_option maxHeartbeats 2000000 in
set_option maxRecDepth 100000 in
theorem c_L_hop {E : EV} {l : Launch} {G : GT} {x : Nat} {p0 p1 : Int} {code val : Int} {out : Nat} {P1 : GT → Prop} (hk : gK G x = 14) (hM : MX E l yX11_hop cX11_hop 4 (some .int) 8 128 2 12 [.ref x, .int (i32 p0), .int (i32 p1)] G (fun v G' => v = some (.int (i32 val)) ∧ code = 0 ∧ P1 G') (fun nx G' => G' = G ∧ rkX nx code)) (hK1 : ∀ G', P1 G' → gK G' out = 26) (hv : InR val) (hc : code ≤ 1) : MH E l yL_hop cL_hop 5 (some .int) hhL_hop 9 151 2 12 [.ref x, .int (i32 p0), .int (i32 p1), .ref out] G (rkWp G out code val P1) := by
  refine mh_of (own := RL) (L := [some (.ref x), some (.int (i32 p0)), some (.int (i32 p1)), some (.ref out), none]) (by decide +kernel) rfl (Nat.le_of_ble_eq_true rfl) (List.forall_mem_cons.mpr ⟨rfl, (List.forall_mem_cons.mpr ⟨rfl, (List.forall_mem_cons.mpr ⟨rfl, (List.forall_mem_cons.mpr ⟨rfl, (fun _ h => absurd h List.not_mem_nil)⟩)⟩)⟩)⟩) rfl ?_
  intro p e s m args below meth c C htab
  refine x_aload_n 1 C dL_hop_0 rfl rfl ?_
  refine x_iconst 2 C dL_hop_1 rfl ?_
  refine x_aload_n 3 C dL_hop_2 rfl rfl ?_
  refine x_iload_n 4 C dL_hop_3 rfl rfl ?_
  refine x_iload_n 5 C dL_hop_4 rfl rfl ?_
  refine x_callVC (As := [_, _]) 8 14 0 0 C vw_L_65 iw_X11_hop sw_X11_hop hM lk_L_65 dL_hop_5 rfl rfl rfl rfl rfl rfl hk ⟨Nat.le_of_ble_eq_true rfl, Nat.le_of_ble_eq_true rfl⟩ (Nat.le_of_ble_eq_true rfl) ⟨by omega, by omega⟩ (fun nx G' hx => ?_) (fun v G' hq => ?_)
  · obtain ⟨rfl, hx⟩ := hx
    rcases hx with ⟨rfl, hx⟩ | ⟨rfl, hx⟩ | ⟨rfl, hx⟩
    · refine ⟨13, ⟨[], ⟨0, 10, 13, 13⟩, [], htab.trans rfl, (fun z hz => absurd hz List.not_mem_nil), by decide, by decide, ⟨_, kl_L_13, kn_L_13⟩, rfl⟩, fun q => ?_⟩
      refine x_astore 15 C dL_hop_13 rfl rfl rfl ?_
      refine x_iconst 16 C dL_hop_15 rfl ?_
      exact x_iret C dL_hop_16 rfl ⟨vi hx.symm, Or.inr ⟨by omega, rfl⟩⟩
    · exact absurd hc (by omega)
    · exact absurd hc (by omega)
  · obtain ⟨rfl, hc0, hq⟩ := hq
    refine x_as rfl rfl rfl ?_
    refine x_i2l 9 C hv dL_hop_8 rfl ?_
    refine x_last1 10 C (hK1 _ hq) hv dL_hop_9 rfl ?_
    refine x_goto 17 C dL_hop_10 (by decide) ?_
    refine x_iconst 18 C dL_hop_17 rfl ?_
    exact x_iret C dL_hop_18 rfl ⟨vi hc0.symm, Or.inl ⟨hc0, _, hq, rfl⟩⟩
set_option maxHeartbeats 2000000 in
set_option maxRecDepth 100000 in
theorem c_L_hops {E : EV} {l : Launch} {G : GT} {x : Nat} {p0 : Int} {code val : Int} {out : Nat} {P1 : GT → Prop} (hk : gK G x = 14) (hM : MX E l yX11_hops cX11_hops 2 (some .int) 7 105 1 6 [.ref x, .int (i32 p0)] G (fun v G' => v = some (.int (i32 val)) ∧ code = 0 ∧ P1 G') (fun nx G' => G' = G ∧ rkX nx code)) (hK1 : ∀ G', P1 G' → gK G' out = 26) (hv : InR val) (hc : code ≤ 1) : MH E l yL_hops cL_hops 4 (some .int) hhL_hops 8 126 1 6 [.ref x, .int (i32 p0), .ref out] G (rkWp G out code val P1) := by
  refine mh_of (own := RL) (L := [some (.ref x), some (.int (i32 p0)), some (.ref out), none]) (by decide +kernel) rfl (Nat.le_of_ble_eq_true rfl) (List.forall_mem_cons.mpr ⟨rfl, (List.forall_mem_cons.mpr ⟨rfl, (List.forall_mem_cons.mpr ⟨rfl, (fun _ h => absurd h List.not_mem_nil)⟩)⟩)⟩) rfl ?_
  intro p e s m args below meth c C htab
  refine x_aload_n 1 C dL_hops_0 rfl rfl ?_
  refine x_iconst 2 C dL_hops_1 rfl ?_
  refine x_aload_n 3 C dL_hops_2 rfl rfl ?_
  refine x_iload_n 4 C dL_hops_3 rfl rfl ?_
  refine x_callVC (As := [_]) 7 14 0 0 C vw_L_62 iw_X11_hops sw_X11_hops hM lk_L_62 dL_hops_4 rfl rfl rfl rfl rfl rfl hk ⟨Nat.le_of_ble_eq_true rfl, Nat.le_of_ble_eq_true rfl⟩ (Nat.le_of_ble_eq_true rfl) ⟨by omega, by omega⟩ (fun nx G' hx => ?_) (fun v G' hq => ?_)
  · obtain ⟨rfl, hx⟩ := hx
    rcases hx with ⟨rfl, hx⟩ | ⟨rfl, hx⟩ | ⟨rfl, hx⟩
    · refine ⟨12, ⟨[], ⟨0, 9, 12, 13⟩, [], htab.trans rfl, (fun z hz => absurd hz List.not_mem_nil), by decide, by decide, ⟨_, kl_L_13, kn_L_13⟩, rfl⟩, fun q => ?_⟩
      refine x_astore_n 13 C dL_hops_12 rfl rfl rfl ?_
      refine x_iconst 14 C dL_hops_13 rfl ?_
      exact x_iret C dL_hops_14 rfl ⟨vi hx.symm, Or.inr ⟨by omega, rfl⟩⟩
    · exact absurd hc (by omega)
    · exact absurd hc (by omega)
  · obtain ⟨rfl, hc0, hq⟩ := hq
    refine x_as rfl rfl rfl ?_
    refine x_i2l 8 C hv dL_hops_7 rfl ?_
    refine x_last1 9 C (hK1 _ hq) hv dL_hops_8 rfl ?_
    refine x_goto 15 C dL_hops_9 (by decide) ?_
    refine x_iconst 16 C dL_hops_15 rfl ?_
    exact x_iret C dL_hops_16 rfl ⟨vi hc0.symm, Or.inl ⟨hc0, _, hq, rfl⟩⟩
set_option maxHeartbeats 2000000 in
set_option maxRecDepth 100000 in
theorem c_L_host {E : EV} {l : Launch} {G : GT} {x : Nat} {p0 p1 p2 : Int} {code val : Int} {out : Nat} {P1 : GT → Prop} (hk : gK G x = 14) (hM : MX E l yX11_host cX11_host 8 (some .int) 7 191 3 41 [.ref x, .int (i32 p0), .int (i32 p1), .int (i32 p2)] G (fun v G' => v = some (.int (i32 val)) ∧ code = 0 ∧ P1 G') (fun nx G' => G' = G ∧ rkX nx code)) (hK1 : ∀ G', P1 G' → gK G' out = 26) (hv : InR val) (hc : code ≤ 3) : MH E l yL_host cL_host 6 (some .int) hhL_host 8 218 3 41 [.ref x, .int (i32 p0), .int (i32 p1), .int (i32 p2), .ref out] G (rkWp G out code val P1) := by
  refine mh_of (own := RL) (L := [some (.ref x), some (.int (i32 p0)), some (.int (i32 p1)), some (.int (i32 p2)), some (.ref out), none]) (by decide +kernel) rfl (Nat.le_of_ble_eq_true rfl) (List.forall_mem_cons.mpr ⟨rfl, (List.forall_mem_cons.mpr ⟨rfl, (List.forall_mem_cons.mpr ⟨rfl, (List.forall_mem_cons.mpr ⟨rfl, (List.forall_mem_cons.mpr ⟨rfl, (fun _ h => absurd h List.not_mem_nil)⟩)⟩)⟩)⟩)⟩) rfl ?_
  intro p e s m args below meth c C htab
  refine x_aload 2 C dL_host_0 rfl rfl ?_
  refine x_iconst 3 C dL_host_2 rfl ?_
  refine x_aload_n 4 C dL_host_3 rfl rfl ?_
  refine x_iload_n 5 C dL_host_4 rfl rfl ?_
  refine x_iload_n 6 C dL_host_5 rfl rfl ?_
  refine x_iload_n 7 C dL_host_6 rfl rfl ?_
  refine x_callVC (As := [_, _, _]) 10 14 0 0 C vw_L_7 iw_X11_host sw_X11_host hM lk_L_7 dL_host_7 rfl rfl rfl rfl rfl rfl hk ⟨Nat.le_of_ble_eq_true rfl, Nat.le_of_ble_eq_true rfl⟩ (Nat.le_of_ble_eq_true rfl) ⟨by omega, by omega⟩ (fun nx G' hx => ?_) (fun v G' hq => ?_)
  · obtain ⟨rfl, hx⟩ := hx
    rcases hx with ⟨rfl, hx⟩ | ⟨rfl, hx⟩ | ⟨rfl, hx⟩
    · refine ⟨15, ⟨[], ⟨0, 12, 15, 13⟩, [⟨0, 12, 19, 15⟩, ⟨0, 12, 23, 17⟩], htab.trans rfl, (fun z hz => absurd hz List.not_mem_nil), by decide, by decide, ⟨_, kl_L_13, kn_L_13⟩, rfl⟩, fun q => ?_⟩
      refine x_astore 17 C dL_host_15 rfl rfl rfl ?_
      refine x_iconst 18 C dL_host_17 rfl ?_
      exact x_iret C dL_host_18 rfl ⟨vi hx.symm, Or.inr ⟨by omega, rfl⟩⟩
    · refine ⟨19, ⟨[⟨0, 12, 15, 13⟩], ⟨0, 12, 19, 15⟩, [⟨0, 12, 23, 17⟩], htab.trans rfl, (List.forall_mem_cons.mpr ⟨⟨by decide, _, kl_L_13, nc_AI⟩, (fun z hz => absurd hz List.not_mem_nil)⟩), by decide, by decide, ⟨_, kl_L_15, kn_L_15⟩, rfl⟩, fun q => ?_⟩
      refine x_astore 21 C dL_host_19 rfl rfl rfl ?_
      refine x_iconst 22 C dL_host_21 rfl ?_
      exact x_iret C dL_host_22 rfl ⟨vi hx.symm, Or.inr ⟨by omega, rfl⟩⟩
    · refine ⟨23, ⟨[⟨0, 12, 15, 13⟩, ⟨0, 12, 19, 15⟩], ⟨0, 12, 23, 17⟩, [], htab.trans rfl, (List.forall_mem_cons.mpr ⟨⟨by decide, _, kl_L_13, nc_SI⟩, (List.forall_mem_cons.mpr ⟨⟨by decide, _, kl_L_15, nc_SA⟩, (fun z hz => absurd hz List.not_mem_nil)⟩)⟩), by decide, by decide, ⟨_, kl_L_17, kn_L_17⟩, rfl⟩, fun q => ?_⟩
      refine x_astore 25 C dL_host_23 rfl rfl rfl ?_
      refine x_iconst 26 C dL_host_25 rfl ?_
      exact x_iret C dL_host_26 rfl ⟨vi hx.symm, Or.inr ⟨by omega, rfl⟩⟩
  · obtain ⟨rfl, hc0, hq⟩ := hq
    refine x_as rfl rfl rfl ?_
    refine x_i2l 11 C hv dL_host_10 rfl ?_
    refine x_last1 12 C (hK1 _ hq) hv dL_host_11 rfl ?_
    refine x_goto 27 C dL_host_12 (by decide) ?_
    refine x_iconst 28 C dL_host_27 rfl ?_
    exact x_iret C dL_host_28 rfl ⟨vi hc0.symm, Or.inl ⟨hc0, _, hq, rfl⟩⟩
set_option maxHeartbeats 2000000 in
set_option maxRecDepth 100000 in
theorem c_L_judged {E : EV} {l : Launch} {G : GT} {x : Nat} {p0 : Int} {code val : Int} {out : Nat} {P1 : GT → Prop} (hk : gK G x = 14) (hM : MX E l yX11_judged cX11_judged 2 (some .int) 7 105 1 6 [.ref x, .int (i32 p0)] G (fun v G' => v = some (.int (i32 val)) ∧ code = 0 ∧ P1 G') (fun nx G' => G' = G ∧ rkX nx code)) (hK1 : ∀ G', P1 G' → gK G' out = 26) (hv : InR val) (hc : code ≤ 1) : MH E l yL_judged cL_judged 4 (some .int) hhL_judged 8 126 1 6 [.ref x, .int (i32 p0), .ref out] G (rkWp G out code val P1) := by
  refine mh_of (own := RL) (L := [some (.ref x), some (.int (i32 p0)), some (.ref out), none]) (by decide +kernel) rfl (Nat.le_of_ble_eq_true rfl) (List.forall_mem_cons.mpr ⟨rfl, (List.forall_mem_cons.mpr ⟨rfl, (List.forall_mem_cons.mpr ⟨rfl, (fun _ h => absurd h List.not_mem_nil)⟩)⟩)⟩) rfl ?_
  intro p e s m args below meth c C htab
  refine x_aload_n 1 C dL_judged_0 rfl rfl ?_
  refine x_iconst 2 C dL_judged_1 rfl ?_
  refine x_aload_n 3 C dL_judged_2 rfl rfl ?_
  refine x_iload_n 4 C dL_judged_3 rfl rfl ?_
  refine x_callVC (As := [_]) 7 14 0 0 C vw_L_71 iw_X11_judged sw_X11_judged hM lk_L_71 dL_judged_4 rfl rfl rfl rfl rfl rfl hk ⟨Nat.le_of_ble_eq_true rfl, Nat.le_of_ble_eq_true rfl⟩ (Nat.le_of_ble_eq_true rfl) ⟨by omega, by omega⟩ (fun nx G' hx => ?_) (fun v G' hq => ?_)
  · obtain ⟨rfl, hx⟩ := hx
    rcases hx with ⟨rfl, hx⟩ | ⟨rfl, hx⟩ | ⟨rfl, hx⟩
    · refine ⟨12, ⟨[], ⟨0, 9, 12, 13⟩, [], htab.trans rfl, (fun z hz => absurd hz List.not_mem_nil), by decide, by decide, ⟨_, kl_L_13, kn_L_13⟩, rfl⟩, fun q => ?_⟩
      refine x_astore_n 13 C dL_judged_12 rfl rfl rfl ?_
      refine x_iconst 14 C dL_judged_13 rfl ?_
      exact x_iret C dL_judged_14 rfl ⟨vi hx.symm, Or.inr ⟨by omega, rfl⟩⟩
    · exact absurd hc (by omega)
    · exact absurd hc (by omega)
  · obtain ⟨rfl, hc0, hq⟩ := hq
    refine x_as rfl rfl rfl ?_
    refine x_i2l 8 C hv dL_judged_7 rfl ?_
    refine x_last1 9 C (hK1 _ hq) hv dL_judged_8 rfl ?_
    refine x_goto 15 C dL_judged_9 (by decide) ?_
    refine x_iconst 16 C dL_judged_15 rfl ?_
    exact x_iret C dL_judged_16 rfl ⟨vi hc0.symm, Or.inl ⟨hc0, _, hq, rfl⟩⟩
set_option maxHeartbeats 2000000 in
set_option maxRecDepth 100000 in
theorem c_L_page {E : EV} {l : Launch} {G : GT} {x : Nat} {p0 p1 p2 : Int} {code val : Int} {out : Nat} {P1 : GT → Prop} (hk : gK G x = 14) (hM : MX E l yX11_page cX11_page 6 (some .int) 7 191 4 40 [.ref x, .int (i32 p0), .int (i32 p1), .int (i32 p2)] G (fun v G' => v = some (.int (i32 val)) ∧ code = 0 ∧ P1 G') (fun nx G' => G' = G ∧ rkX nx code)) (hK1 : ∀ G', P1 G' → gK G' out = 26) (hv : InR val) (hc : code ≤ 3) : MH E l yL_page cL_page 6 (some .int) hhL_page 8 216 4 40 [.ref x, .int (i32 p0), .int (i32 p1), .int (i32 p2), .ref out] G (rkWp G out code val P1) := by
  refine mh_of (own := RL) (L := [some (.ref x), some (.int (i32 p0)), some (.int (i32 p1)), some (.int (i32 p2)), some (.ref out), none]) (by decide +kernel) rfl (Nat.le_of_ble_eq_true rfl) (List.forall_mem_cons.mpr ⟨rfl, (List.forall_mem_cons.mpr ⟨rfl, (List.forall_mem_cons.mpr ⟨rfl, (List.forall_mem_cons.mpr ⟨rfl, (List.forall_mem_cons.mpr ⟨rfl, (fun _ h => absurd h List.not_mem_nil)⟩)⟩)⟩)⟩)⟩) rfl ?_
  intro p e s m args below meth c C htab
  refine x_aload 2 C dL_page_0 rfl rfl ?_
  refine x_iconst 3 C dL_page_2 rfl ?_
  refine x_aload_n 4 C dL_page_3 rfl rfl ?_
  refine x_iload_n 5 C dL_page_4 rfl rfl ?_
  refine x_iload_n 6 C dL_page_5 rfl rfl ?_
  refine x_iload_n 7 C dL_page_6 rfl rfl ?_
  refine x_callVC (As := [_, _, _]) 10 14 0 0 C vw_L_51 iw_X11_page sw_X11_page hM lk_L_51 dL_page_7 rfl rfl rfl rfl rfl rfl hk ⟨Nat.le_of_ble_eq_true rfl, Nat.le_of_ble_eq_true rfl⟩ (Nat.le_of_ble_eq_true rfl) ⟨by omega, by omega⟩ (fun nx G' hx => ?_) (fun v G' hq => ?_)
  · obtain ⟨rfl, hx⟩ := hx
    rcases hx with ⟨rfl, hx⟩ | ⟨rfl, hx⟩ | ⟨rfl, hx⟩
    · refine ⟨15, ⟨[], ⟨0, 12, 15, 13⟩, [⟨0, 12, 19, 15⟩, ⟨0, 12, 23, 17⟩], htab.trans rfl, (fun z hz => absurd hz List.not_mem_nil), by decide, by decide, ⟨_, kl_L_13, kn_L_13⟩, rfl⟩, fun q => ?_⟩
      refine x_astore 17 C dL_page_15 rfl rfl rfl ?_
      refine x_iconst 18 C dL_page_17 rfl ?_
      exact x_iret C dL_page_18 rfl ⟨vi hx.symm, Or.inr ⟨by omega, rfl⟩⟩
    · refine ⟨19, ⟨[⟨0, 12, 15, 13⟩], ⟨0, 12, 19, 15⟩, [⟨0, 12, 23, 17⟩], htab.trans rfl, (List.forall_mem_cons.mpr ⟨⟨by decide, _, kl_L_13, nc_AI⟩, (fun z hz => absurd hz List.not_mem_nil)⟩), by decide, by decide, ⟨_, kl_L_15, kn_L_15⟩, rfl⟩, fun q => ?_⟩
      refine x_astore 21 C dL_page_19 rfl rfl rfl ?_
      refine x_iconst 22 C dL_page_21 rfl ?_
      exact x_iret C dL_page_22 rfl ⟨vi hx.symm, Or.inr ⟨by omega, rfl⟩⟩
    · refine ⟨23, ⟨[⟨0, 12, 15, 13⟩, ⟨0, 12, 19, 15⟩], ⟨0, 12, 23, 17⟩, [], htab.trans rfl, (List.forall_mem_cons.mpr ⟨⟨by decide, _, kl_L_13, nc_SI⟩, (List.forall_mem_cons.mpr ⟨⟨by decide, _, kl_L_15, nc_SA⟩, (fun z hz => absurd hz List.not_mem_nil)⟩)⟩), by decide, by decide, ⟨_, kl_L_17, kn_L_17⟩, rfl⟩, fun q => ?_⟩
      refine x_astore 25 C dL_page_23 rfl rfl rfl ?_
      refine x_iconst 26 C dL_page_25 rfl ?_
      exact x_iret C dL_page_26 rfl ⟨vi hx.symm, Or.inr ⟨by omega, rfl⟩⟩
  · obtain ⟨rfl, hc0, hq⟩ := hq
    refine x_as rfl rfl rfl ?_
    refine x_i2l 11 C hv dL_page_10 rfl ?_
    refine x_last1 12 C (hK1 _ hq) hv dL_page_11 rfl ?_
    refine x_goto 27 C dL_page_12 (by decide) ?_
    refine x_iconst 28 C dL_page_27 rfl ?_
    exact x_iret C dL_page_28 rfl ⟨vi hc0.symm, Or.inl ⟨hc0, _, hq, rfl⟩⟩
set_option maxHeartbeats 2000000 in
set_option maxRecDepth 100000 in
theorem c_L_pass {E : EV} {l : Launch} {G : GT} {x : Nat} {p0 : Int} {code val : Int} {out : Nat} {P1 : GT → Prop} (hk : gK G x = 14) (hM : MX E l yX11_pass cX11_pass 2 (some .int) 6 128 1 6 [.ref x, .int (i32 p0)] G (fun v G' => v = some (.int (i32 val)) ∧ code = 0 ∧ P1 G') (fun nx G' => G' = G ∧ nx = "java/lang/IllegalArgumentException" ∧ code = 1)) (hK1 : ∀ G', P1 G' → gK G' out = 26) (hv : InR val) : MH E l yL_pass cL_pass 4 (some .int) hhL_pass 7 149 1 6 [.ref x, .int (i32 p0), .ref out] G (rkWp G out code val P1) := by
  refine mh_of (own := RL) (L := [some (.ref x), some (.int (i32 p0)), some (.ref out), none]) (by decide +kernel) rfl (Nat.le_of_ble_eq_true rfl) (List.forall_mem_cons.mpr ⟨rfl, (List.forall_mem_cons.mpr ⟨rfl, (List.forall_mem_cons.mpr ⟨rfl, (fun _ h => absurd h List.not_mem_nil)⟩)⟩)⟩) rfl ?_
  intro p e s m args below meth c C htab
  refine x_aload_n 1 C dL_pass_0 rfl rfl ?_
  refine x_iconst 2 C dL_pass_1 rfl ?_
  refine x_aload_n 3 C dL_pass_2 rfl rfl ?_
  refine x_iload_n 4 C dL_pass_3 rfl rfl ?_
  refine x_callVC (As := [_]) 7 14 0 0 C vw_L_59 iw_X11_pass sw_X11_pass hM lk_L_59 dL_pass_4 rfl rfl rfl rfl rfl rfl hk ⟨Nat.le_of_ble_eq_true rfl, Nat.le_of_ble_eq_true rfl⟩ (Nat.le_of_ble_eq_true rfl) ⟨by omega, by omega⟩ (fun nx G' hx => ?_) (fun v G' hq => ?_)
  · obtain ⟨rfl, rfl, hx⟩ := hx
    refine ⟨12, ⟨[], ⟨0, 9, 12, 15⟩, [], htab.trans rfl, (fun z hz => absurd hz List.not_mem_nil), by decide, by decide, ⟨_, kl_L_15, kn_L_15⟩, rfl⟩, fun q => ?_⟩
    refine x_astore_n 13 C dL_pass_12 rfl rfl rfl ?_
    refine x_iconst 14 C dL_pass_13 rfl ?_
    exact x_iret C dL_pass_14 rfl ⟨vi hx.symm, Or.inr ⟨by omega, rfl⟩⟩
  · obtain ⟨rfl, hc0, hq⟩ := hq
    refine x_as rfl rfl rfl ?_
    refine x_i2l 8 C hv dL_pass_7 rfl ?_
    refine x_last1 9 C (hK1 _ hq) hv dL_pass_8 rfl ?_
    refine x_goto 15 C dL_pass_9 (by decide) ?_
    refine x_iconst 16 C dL_pass_15 rfl ?_
    exact x_iret C dL_pass_16 rfl ⟨vi hc0.symm, Or.inl ⟨hc0, _, hq, rfl⟩⟩
set_option maxHeartbeats 2000000 in
set_option maxRecDepth 100000 in
theorem c_L_redirect {E : EV} {l : Launch} {G : GT} {x : Nat} {p0 p1 p2 : Int} {code : Int} {P1 : GT → Prop} (hk : gK G x = 14) (hM : MX E l yX11_redirect cX11_redirect 6 none 7 105 3 18 [.ref x, .int (i32 p0), .int (i32 p1), .int (i32 p2)] G (fun v G' => v = none ∧ code = 0 ∧ P1 G') (fun nx G' => G' = G ∧ rkX nx code)) (hc : code ≤ 2) : MH E l yL_redirect cL_redirect 5 (some .int) hhL_redirect 8 130 3 18 [.ref x, .int (i32 p0), .int (i32 p1), .int (i32 p2)] G (rkWv G code P1) := by
  refine mh_of (own := RL) (L := [some (.ref x), some (.int (i32 p0)), some (.int (i32 p1)), some (.int (i32 p2)), none]) (by decide +kernel) rfl (Nat.le_of_ble_eq_true rfl) (List.forall_mem_cons.mpr ⟨rfl, (List.forall_mem_cons.mpr ⟨rfl, (List.forall_mem_cons.mpr ⟨rfl, (List.forall_mem_cons.mpr ⟨rfl, (fun _ h => absurd h List.not_mem_nil)⟩)⟩)⟩)⟩) rfl ?_
  intro p e s m args below meth c C htab
  refine x_aload_n 1 C dL_redirect_0 rfl rfl ?_
  refine x_iload_n 2 C dL_redirect_1 rfl rfl ?_
  refine x_iload_n 3 C dL_redirect_2 rfl rfl ?_
  refine x_iload_n 4 C dL_redirect_3 rfl rfl ?_
  refine x_callVC (As := [_, _, _]) 7 14 0 0 C vw_L_39 iw_X11_redirect sw_X11_redirect hM lk_L_39 dL_redirect_4 rfl rfl rfl rfl rfl rfl hk ⟨Nat.le_of_ble_eq_true rfl, Nat.le_of_ble_eq_true rfl⟩ (Nat.le_of_ble_eq_true rfl) ⟨by omega, by omega⟩ (fun nx G' hx => ?_) (fun v G' hq => ?_)
  · obtain ⟨rfl, hx⟩ := hx
    rcases hx with ⟨rfl, hx⟩ | ⟨rfl, hx⟩ | ⟨rfl, hx⟩
    · refine ⟨10, ⟨[], ⟨0, 7, 10, 13⟩, [⟨0, 7, 14, 15⟩], htab.trans rfl, (fun z hz => absurd hz List.not_mem_nil), by decide, by decide, ⟨_, kl_L_13, kn_L_13⟩, rfl⟩, fun q => ?_⟩
      refine x_astore 12 C dL_redirect_10 rfl rfl rfl ?_
      refine x_iconst 13 C dL_redirect_12 rfl ?_
      exact x_iret C dL_redirect_13 rfl ⟨vi hx.symm, Or.inr ⟨by omega, rfl⟩⟩
    · refine ⟨14, ⟨[⟨0, 7, 10, 13⟩], ⟨0, 7, 14, 15⟩, [], htab.trans rfl, (List.forall_mem_cons.mpr ⟨⟨by decide, _, kl_L_13, nc_AI⟩, (fun z hz => absurd hz List.not_mem_nil)⟩), by decide, by decide, ⟨_, kl_L_15, kn_L_15⟩, rfl⟩, fun q => ?_⟩
      refine x_astore 16 C dL_redirect_14 rfl rfl rfl ?_
      refine x_iconst 17 C dL_redirect_16 rfl ?_
      exact x_iret C dL_redirect_17 rfl ⟨vi hx.symm, Or.inr ⟨by omega, rfl⟩⟩
    · exact absurd hc (by omega)
  · obtain ⟨rfl, hc0, hq⟩ := hq
    refine x_as rfl rfl rfl ?_
    refine x_goto 18 C dL_redirect_7 (by decide) ?_
    refine x_iconst 19 C dL_redirect_18 rfl ?_
    exact x_iret C dL_redirect_19 rfl ⟨vi hc0.symm, Or.inl ⟨hc0, hq⟩⟩
set_option maxHeartbeats 2000000 in
set_option maxRecDepth 100000 in
theorem c_L_request {E : EV} {l : Launch} {G : GT} {x : Nat} {p0 p1 p2 p3 p4 p5 : Int} {code val : Int} {out : Nat} {P1 : GT → Prop} (hk : gK G x = 14) (hM : MX E l yX11_request cX11_request 12 (some .int) 10 268 71 2975 [.ref x, .int (i32 p0), .int (i32 p1), .int (i32 p2), .int (i32 p3), .int (i32 p4), .int (i32 p5)] G (fun v G' => v = some (.int (i32 val)) ∧ code = 0 ∧ P1 G') (fun nx G' => G' = G ∧ rkX nx code)) (hK1 : ∀ G', P1 G' → gK G' out = 26) (hv : InR val) (hc : code ≤ 3) : MH E l yL_request cL_request 9 (some .int) hhL_request 11 299 71 2975 [.ref x, .int (i32 p0), .int (i32 p1), .int (i32 p2), .int (i32 p3), .int (i32 p4), .int (i32 p5), .ref out] G (rkWp G out code val P1) := by
  refine mh_of (own := RL) (L := [some (.ref x), some (.int (i32 p0)), some (.int (i32 p1)), some (.int (i32 p2)), some (.int (i32 p3)), some (.int (i32 p4)), some (.int (i32 p5)), some (.ref out), none]) (by decide +kernel) rfl (Nat.le_of_ble_eq_true rfl) (List.forall_mem_cons.mpr ⟨rfl, (List.forall_mem_cons.mpr ⟨rfl, (List.forall_mem_cons.mpr ⟨rfl, (List.forall_mem_cons.mpr ⟨rfl, (List.forall_mem_cons.mpr ⟨rfl, (List.forall_mem_cons.mpr ⟨rfl, (List.forall_mem_cons.mpr ⟨rfl, (List.forall_mem_cons.mpr ⟨rfl, (fun _ h => absurd h List.not_mem_nil)⟩)⟩)⟩)⟩)⟩)⟩)⟩)⟩) rfl ?_
  intro p e s m args below meth c C htab
  refine x_aload 2 C dL_request_0 rfl rfl ?_
  refine x_iconst 3 C dL_request_2 rfl ?_
  refine x_aload_n 4 C dL_request_3 rfl rfl ?_
  refine x_iload_n 5 C dL_request_4 rfl rfl ?_
  refine x_iload_n 6 C dL_request_5 rfl rfl ?_
  refine x_iload_n 7 C dL_request_6 rfl rfl ?_
  refine x_iload 9 C dL_request_7 rfl rfl ?_
  refine x_iload 11 C dL_request_9 rfl rfl ?_
  refine x_iload 13 C dL_request_11 rfl rfl ?_
  refine x_callVC (As := [_, _, _, _, _, _]) 16 14 0 0 C vw_L_55 iw_X11_request sw_X11_request hM lk_L_55 dL_request_13 rfl rfl rfl rfl rfl rfl hk ⟨Nat.le_of_ble_eq_true rfl, Nat.le_of_ble_eq_true rfl⟩ (Nat.le_of_ble_eq_true rfl) ⟨by omega, by omega⟩ (fun nx G' hx => ?_) (fun v G' hq => ?_)
  · obtain ⟨rfl, hx⟩ := hx
    rcases hx with ⟨rfl, hx⟩ | ⟨rfl, hx⟩ | ⟨rfl, hx⟩
    · refine ⟨21, ⟨[], ⟨0, 18, 21, 13⟩, [⟨0, 18, 25, 15⟩, ⟨0, 18, 29, 17⟩], htab.trans rfl, (fun z hz => absurd hz List.not_mem_nil), by decide, by decide, ⟨_, kl_L_13, kn_L_13⟩, rfl⟩, fun q => ?_⟩
      refine x_astore 23 C dL_request_21 rfl rfl rfl ?_
      refine x_iconst 24 C dL_request_23 rfl ?_
      exact x_iret C dL_request_24 rfl ⟨vi hx.symm, Or.inr ⟨by omega, rfl⟩⟩
    · refine ⟨25, ⟨[⟨0, 18, 21, 13⟩], ⟨0, 18, 25, 15⟩, [⟨0, 18, 29, 17⟩], htab.trans rfl, (List.forall_mem_cons.mpr ⟨⟨by decide, _, kl_L_13, nc_AI⟩, (fun z hz => absurd hz List.not_mem_nil)⟩), by decide, by decide, ⟨_, kl_L_15, kn_L_15⟩, rfl⟩, fun q => ?_⟩
      refine x_astore 27 C dL_request_25 rfl rfl rfl ?_
      refine x_iconst 28 C dL_request_27 rfl ?_
      exact x_iret C dL_request_28 rfl ⟨vi hx.symm, Or.inr ⟨by omega, rfl⟩⟩
    · refine ⟨29, ⟨[⟨0, 18, 21, 13⟩, ⟨0, 18, 25, 15⟩], ⟨0, 18, 29, 17⟩, [], htab.trans rfl, (List.forall_mem_cons.mpr ⟨⟨by decide, _, kl_L_13, nc_SI⟩, (List.forall_mem_cons.mpr ⟨⟨by decide, _, kl_L_15, nc_SA⟩, (fun z hz => absurd hz List.not_mem_nil)⟩)⟩), by decide, by decide, ⟨_, kl_L_17, kn_L_17⟩, rfl⟩, fun q => ?_⟩
      refine x_astore 31 C dL_request_29 rfl rfl rfl ?_
      refine x_iconst 32 C dL_request_31 rfl ?_
      exact x_iret C dL_request_32 rfl ⟨vi hx.symm, Or.inr ⟨by omega, rfl⟩⟩
  · obtain ⟨rfl, hc0, hq⟩ := hq
    refine x_as rfl rfl rfl ?_
    refine x_i2l 17 C hv dL_request_16 rfl ?_
    refine x_last1 18 C (hK1 _ hq) hv dL_request_17 rfl ?_
    refine x_goto 33 C dL_request_18 (by decide) ?_
    refine x_iconst 34 C dL_request_33 rfl ?_
    exact x_iret C dL_request_34 rfl ⟨vi hc0.symm, Or.inl ⟨hc0, _, hq, rfl⟩⟩
set_option maxHeartbeats 2000000 in
set_option maxRecDepth 100000 in
theorem c_L_resolve {E : EV} {l : Launch} {G : GT} {x : Nat} {p0 p1 : Int} {code val : Int} {out : Nat} {P1 : GT → Prop} (hk : gK G x = 14) (hM : MX E l yX11_resolve cX11_resolve 6 (some .int) 10 248 68 10086 [.ref x, .int (i32 p0), .int (i32 p1)] G (fun v G' => v = some (.int (i32 val)) ∧ code = 0 ∧ P1 G') (fun nx G' => G' = G ∧ rkX nx code)) (hK1 : ∀ G', P1 G' → gK G' out = 26) (hv : InR val) (hc : code ≤ 3) : MH E l yL_resolve cL_resolve 5 (some .int) hhL_resolve 11 273 68 10086 [.ref x, .int (i32 p0), .int (i32 p1), .ref out] G (rkWp G out code val P1) := by
  refine mh_of (own := RL) (L := [some (.ref x), some (.int (i32 p0)), some (.int (i32 p1)), some (.ref out), none]) (by decide +kernel) rfl (Nat.le_of_ble_eq_true rfl) (List.forall_mem_cons.mpr ⟨rfl, (List.forall_mem_cons.mpr ⟨rfl, (List.forall_mem_cons.mpr ⟨rfl, (List.forall_mem_cons.mpr ⟨rfl, (fun _ h => absurd h List.not_mem_nil)⟩)⟩)⟩)⟩) rfl ?_
  intro p e s m args below meth c C htab
  refine x_aload_n 1 C dL_resolve_0 rfl rfl ?_
  refine x_iconst 2 C dL_resolve_1 rfl ?_
  refine x_aload_n 3 C dL_resolve_2 rfl rfl ?_
  refine x_iload_n 4 C dL_resolve_3 rfl rfl ?_
  refine x_iload_n 5 C dL_resolve_4 rfl rfl ?_
  refine x_callVC (As := [_, _]) 8 14 0 0 C vw_L_31 iw_X11_resolve sw_X11_resolve hM lk_L_31 dL_resolve_5 rfl rfl rfl rfl rfl rfl hk ⟨Nat.le_of_ble_eq_true rfl, Nat.le_of_ble_eq_true rfl⟩ (Nat.le_of_ble_eq_true rfl) ⟨by omega, by omega⟩ (fun nx G' hx => ?_) (fun v G' hq => ?_)
  · obtain ⟨rfl, hx⟩ := hx
    rcases hx with ⟨rfl, hx⟩ | ⟨rfl, hx⟩ | ⟨rfl, hx⟩
    · refine ⟨13, ⟨[], ⟨0, 10, 13, 13⟩, [⟨0, 10, 17, 15⟩, ⟨0, 10, 21, 17⟩], htab.trans rfl, (fun z hz => absurd hz List.not_mem_nil), by decide, by decide, ⟨_, kl_L_13, kn_L_13⟩, rfl⟩, fun q => ?_⟩
      refine x_astore 15 C dL_resolve_13 rfl rfl rfl ?_
      refine x_iconst 16 C dL_resolve_15 rfl ?_
      exact x_iret C dL_resolve_16 rfl ⟨vi hx.symm, Or.inr ⟨by omega, rfl⟩⟩
    · refine ⟨17, ⟨[⟨0, 10, 13, 13⟩], ⟨0, 10, 17, 15⟩, [⟨0, 10, 21, 17⟩], htab.trans rfl, (List.forall_mem_cons.mpr ⟨⟨by decide, _, kl_L_13, nc_AI⟩, (fun z hz => absurd hz List.not_mem_nil)⟩), by decide, by decide, ⟨_, kl_L_15, kn_L_15⟩, rfl⟩, fun q => ?_⟩
      refine x_astore 19 C dL_resolve_17 rfl rfl rfl ?_
      refine x_iconst 20 C dL_resolve_19 rfl ?_
      exact x_iret C dL_resolve_20 rfl ⟨vi hx.symm, Or.inr ⟨by omega, rfl⟩⟩
    · refine ⟨21, ⟨[⟨0, 10, 13, 13⟩, ⟨0, 10, 17, 15⟩], ⟨0, 10, 21, 17⟩, [], htab.trans rfl, (List.forall_mem_cons.mpr ⟨⟨by decide, _, kl_L_13, nc_SI⟩, (List.forall_mem_cons.mpr ⟨⟨by decide, _, kl_L_15, nc_SA⟩, (fun z hz => absurd hz List.not_mem_nil)⟩)⟩), by decide, by decide, ⟨_, kl_L_17, kn_L_17⟩, rfl⟩, fun q => ?_⟩
      refine x_astore 23 C dL_resolve_21 rfl rfl rfl ?_
      refine x_iconst 24 C dL_resolve_23 rfl ?_
      exact x_iret C dL_resolve_24 rfl ⟨vi hx.symm, Or.inr ⟨by omega, rfl⟩⟩
  · obtain ⟨rfl, hc0, hq⟩ := hq
    refine x_as rfl rfl rfl ?_
    refine x_i2l 9 C hv dL_resolve_8 rfl ?_
    refine x_last1 10 C (hK1 _ hq) hv dL_resolve_9 rfl ?_
    refine x_goto 25 C dL_resolve_10 (by decide) ?_
    refine x_iconst 26 C dL_resolve_25 rfl ?_
    exact x_iret C dL_resolve_26 rfl ⟨vi hc0.symm, Or.inl ⟨hc0, _, hq, rfl⟩⟩
set_option maxHeartbeats 2000000 in
set_option maxRecDepth 100000 in
theorem c_L_sent {E : EV} {l : Launch} {G : GT} {x : Nat} {p0 p1 p2 : Int} {code val : Int} {out : Nat} {P1 : GT → Prop} (hk : gK G x = 14) (hM : MX E l yX11_sent cX11_sent 5 (some .int) 8 128 3 18 [.ref x, .int (i32 p0), .int (i32 p1), .int (i32 p2)] G (fun v G' => v = some (.int (i32 val)) ∧ code = 0 ∧ P1 G') (fun nx G' => G' = G ∧ rkX nx code)) (hK1 : ∀ G', P1 G' → gK G' out = 26) (hv : InR val) (hc : code ≤ 1) : MH E l yL_sent cL_sent 6 (some .int) hhL_sent 9 152 3 18 [.ref x, .int (i32 p0), .int (i32 p1), .int (i32 p2), .ref out] G (rkWp G out code val P1) := by
  refine mh_of (own := RL) (L := [some (.ref x), some (.int (i32 p0)), some (.int (i32 p1)), some (.int (i32 p2)), some (.ref out), none]) (by decide +kernel) rfl (Nat.le_of_ble_eq_true rfl) (List.forall_mem_cons.mpr ⟨rfl, (List.forall_mem_cons.mpr ⟨rfl, (List.forall_mem_cons.mpr ⟨rfl, (List.forall_mem_cons.mpr ⟨rfl, (List.forall_mem_cons.mpr ⟨rfl, (fun _ h => absurd h List.not_mem_nil)⟩)⟩)⟩)⟩)⟩) rfl ?_
  intro p e s m args below meth c C htab
  refine x_aload 2 C dL_sent_0 rfl rfl ?_
  refine x_iconst 3 C dL_sent_2 rfl ?_
  refine x_aload_n 4 C dL_sent_3 rfl rfl ?_
  refine x_iload_n 5 C dL_sent_4 rfl rfl ?_
  refine x_iload_n 6 C dL_sent_5 rfl rfl ?_
  refine x_iload_n 7 C dL_sent_6 rfl rfl ?_
  refine x_callVC (As := [_, _, _]) 10 14 0 0 C vw_L_68 iw_X11_sent sw_X11_sent hM lk_L_68 dL_sent_7 rfl rfl rfl rfl rfl rfl hk ⟨Nat.le_of_ble_eq_true rfl, Nat.le_of_ble_eq_true rfl⟩ (Nat.le_of_ble_eq_true rfl) ⟨by omega, by omega⟩ (fun nx G' hx => ?_) (fun v G' hq => ?_)
  · obtain ⟨rfl, hx⟩ := hx
    rcases hx with ⟨rfl, hx⟩ | ⟨rfl, hx⟩ | ⟨rfl, hx⟩
    · refine ⟨15, ⟨[], ⟨0, 12, 15, 13⟩, [], htab.trans rfl, (fun z hz => absurd hz List.not_mem_nil), by decide, by decide, ⟨_, kl_L_13, kn_L_13⟩, rfl⟩, fun q => ?_⟩
      refine x_astore 17 C dL_sent_15 rfl rfl rfl ?_
      refine x_iconst 18 C dL_sent_17 rfl ?_
      exact x_iret C dL_sent_18 rfl ⟨vi hx.symm, Or.inr ⟨by omega, rfl⟩⟩
    · exact absurd hc (by omega)
    · exact absurd hc (by omega)
  · obtain ⟨rfl, hc0, hq⟩ := hq
    refine x_as rfl rfl rfl ?_
    refine x_i2l 11 C hv dL_sent_10 rfl ?_
    refine x_last1 12 C (hK1 _ hq) hv dL_sent_11 rfl ?_
    refine x_goto 19 C dL_sent_12 (by decide) ?_
    refine x_iconst 20 C dL_sent_19 rfl ?_
    exact x_iret C dL_sent_20 rfl ⟨vi hc0.symm, Or.inl ⟨hc0, _, hq, rfl⟩⟩
set_option maxHeartbeats 2000000 in
set_option maxRecDepth 100000 in
theorem c_L_setsCookie {E : EV} {l : Launch} {G : GT} {x : Nat} {p0 p1 p2 p3 p4 p5 p6 : Int} {code : Int} {P1 : GT → Prop} (hk : gK G x = 14) (hM : MX E l yX11_setsCookie cX11_setsCookie 10 none 7 105 3 18 [.ref x, .int (i32 p0), .int (i32 p1), .int (i32 p2), .int (i32 p3), .int (i32 p4), .int (i32 p5), .int (i32 p6)] G (fun v G' => v = none ∧ code = 0 ∧ P1 G') (fun nx G' => G' = G ∧ rkX nx code)) (hc : code ≤ 2) : MH E l yL_setsCookie cL_setsCookie 9 (some .int) hhL_setsCookie 8 134 3 18 [.ref x, .int (i32 p0), .int (i32 p1), .int (i32 p2), .int (i32 p3), .int (i32 p4), .int (i32 p5), .int (i32 p6)] G (rkWv G code P1) := by
  refine mh_of (own := RL) (L := [some (.ref x), some (.int (i32 p0)), some (.int (i32 p1)), some (.int (i32 p2)), some (.int (i32 p3)), some (.int (i32 p4)), some (.int (i32 p5)), some (.int (i32 p6)), none]) (by decide +kernel) rfl (Nat.le_of_ble_eq_true rfl) (List.forall_mem_cons.mpr ⟨rfl, (List.forall_mem_cons.mpr ⟨rfl, (List.forall_mem_cons.mpr ⟨rfl, (List.forall_mem_cons.mpr ⟨rfl, (List.forall_mem_cons.mpr ⟨rfl, (List.forall_mem_cons.mpr ⟨rfl, (List.forall_mem_cons.mpr ⟨rfl, (List.forall_mem_cons.mpr ⟨rfl, (fun _ h => absurd h List.not_mem_nil)⟩)⟩)⟩)⟩)⟩)⟩)⟩)⟩) rfl ?_
  intro p e s m args below meth c C htab
  refine x_aload_n 1 C dL_setsCookie_0 rfl rfl ?_
  refine x_iload_n 2 C dL_setsCookie_1 rfl rfl ?_
  refine x_iload_n 3 C dL_setsCookie_2 rfl rfl ?_
  refine x_iload_n 4 C dL_setsCookie_3 rfl rfl ?_
  refine x_iload 6 C dL_setsCookie_4 rfl rfl ?_
  refine x_iload 8 C dL_setsCookie_6 rfl rfl ?_
  refine x_iload 10 C dL_setsCookie_8 rfl rfl ?_
  refine x_iload 12 C dL_setsCookie_10 rfl rfl ?_
  refine x_callVC (As := [_, _, _, _, _, _, _]) 15 14 0 0 C vw_L_47 iw_X11_setsCookie sw_X11_setsCookie hM lk_L_47 dL_setsCookie_12 rfl rfl rfl rfl rfl rfl hk ⟨Nat.le_of_ble_eq_true rfl, Nat.le_of_ble_eq_true rfl⟩ (Nat.le_of_ble_eq_true rfl) ⟨by omega, by omega⟩ (fun nx G' hx => ?_) (fun v G' hq => ?_)
  · obtain ⟨rfl, hx⟩ := hx
    rcases hx with ⟨rfl, hx⟩ | ⟨rfl, hx⟩ | ⟨rfl, hx⟩
    · refine ⟨18, ⟨[], ⟨0, 15, 18, 13⟩, [⟨0, 15, 22, 15⟩], htab.trans rfl, (fun z hz => absurd hz List.not_mem_nil), by decide, by decide, ⟨_, kl_L_13, kn_L_13⟩, rfl⟩, fun q => ?_⟩
      refine x_astore 20 C dL_setsCookie_18 rfl rfl rfl ?_
      refine x_iconst 21 C dL_setsCookie_20 rfl ?_
      exact x_iret C dL_setsCookie_21 rfl ⟨vi hx.symm, Or.inr ⟨by omega, rfl⟩⟩
    · refine ⟨22, ⟨[⟨0, 15, 18, 13⟩], ⟨0, 15, 22, 15⟩, [], htab.trans rfl, (List.forall_mem_cons.mpr ⟨⟨by decide, _, kl_L_13, nc_AI⟩, (fun z hz => absurd hz List.not_mem_nil)⟩), by decide, by decide, ⟨_, kl_L_15, kn_L_15⟩, rfl⟩, fun q => ?_⟩
      refine x_astore 24 C dL_setsCookie_22 rfl rfl rfl ?_
      refine x_iconst 25 C dL_setsCookie_24 rfl ?_
      exact x_iret C dL_setsCookie_25 rfl ⟨vi hx.symm, Or.inr ⟨by omega, rfl⟩⟩
    · exact absurd hc (by omega)
  · obtain ⟨rfl, hc0, hq⟩ := hq
    refine x_as rfl rfl rfl ?_
    refine x_goto 26 C dL_setsCookie_15 (by decide) ?_
    refine x_iconst 27 C dL_setsCookie_26 rfl ?_
    exact x_iret C dL_setsCookie_27 rfl ⟨vi hc0.symm, Or.inl ⟨hc0, hq⟩⟩
set_option maxHeartbeats 2000000 in
set_option maxRecDepth 100000 in
theorem c_L_site {E : EV} {l : Launch} {G : GT} {x : Nat} {p0 : Int} {code val : Int} {out : Nat} {P1 : GT → Prop} (hk : gK G x = 14) (hM : MX E l yX11_site cX11_site 2 (some .int) 7 105 1 6 [.ref x, .int (i32 p0)] G (fun v G' => v = some (.int (i32 val)) ∧ code = 0 ∧ P1 G') (fun nx G' => G' = G ∧ rkX nx code)) (hK1 : ∀ G', P1 G' → gK G' out = 26) (hv : InR val) (hc : code ≤ 1) : MH E l yL_site cL_site 4 (some .int) hhL_site 8 126 1 6 [.ref x, .int (i32 p0), .ref out] G (rkWp G out code val P1) := by
  refine mh_of (own := RL) (L := [some (.ref x), some (.int (i32 p0)), some (.ref out), none]) (by decide +kernel) rfl (Nat.le_of_ble_eq_true rfl) (List.forall_mem_cons.mpr ⟨rfl, (List.forall_mem_cons.mpr ⟨rfl, (List.forall_mem_cons.mpr ⟨rfl, (fun _ h => absurd h List.not_mem_nil)⟩)⟩)⟩) rfl ?_
  intro p e s m args below meth c C htab
  refine x_aload_n 1 C dL_site_0 rfl rfl ?_
  refine x_iconst 2 C dL_site_1 rfl ?_
  refine x_aload_n 3 C dL_site_2 rfl rfl ?_
  refine x_iload_n 4 C dL_site_3 rfl rfl ?_
  refine x_callVC (As := [_]) 7 14 0 0 C vw_L_23 iw_X11_site sw_X11_site hM lk_L_23 dL_site_4 rfl rfl rfl rfl rfl rfl hk ⟨Nat.le_of_ble_eq_true rfl, Nat.le_of_ble_eq_true rfl⟩ (Nat.le_of_ble_eq_true rfl) ⟨by omega, by omega⟩ (fun nx G' hx => ?_) (fun v G' hq => ?_)
  · obtain ⟨rfl, hx⟩ := hx
    rcases hx with ⟨rfl, hx⟩ | ⟨rfl, hx⟩ | ⟨rfl, hx⟩
    · refine ⟨12, ⟨[], ⟨0, 9, 12, 13⟩, [], htab.trans rfl, (fun z hz => absurd hz List.not_mem_nil), by decide, by decide, ⟨_, kl_L_13, kn_L_13⟩, rfl⟩, fun q => ?_⟩
      refine x_astore_n 13 C dL_site_12 rfl rfl rfl ?_
      refine x_iconst 14 C dL_site_13 rfl ?_
      exact x_iret C dL_site_14 rfl ⟨vi hx.symm, Or.inr ⟨by omega, rfl⟩⟩
    · exact absurd hc (by omega)
    · exact absurd hc (by omega)
  · obtain ⟨rfl, hc0, hq⟩ := hq
    refine x_as rfl rfl rfl ?_
    refine x_i2l 8 C hv dL_site_7 rfl ?_
    refine x_last1 9 C (hK1 _ hq) hv dL_site_8 rfl ?_
    refine x_goto 15 C dL_site_9 (by decide) ?_
    refine x_iconst 16 C dL_site_15 rfl ?_
    exact x_iret C dL_site_16 rfl ⟨vi hc0.symm, Or.inl ⟨hc0, _, hq, rfl⟩⟩
set_option maxHeartbeats 2000000 in
set_option maxRecDepth 100000 in
theorem c_L_text {E : EV} {l : Launch} {G : GT} {x : Nat} {p0 p1 : Int} {code val : Int} {out : Nat} {P1 : GT → Prop} (hk : gK G x = 14) (hM : MX E l yX11_text cX11_text 4 (some .char) 7 105 2 12 [.ref x, .int (i32 p0), .int (i32 p1)] G (fun v G' => v = some (.int (i32 val)) ∧ code = 0 ∧ P1 G') (fun nx G' => G' = G ∧ rkX nx code)) (hK1 : ∀ G', P1 G' → gK G' out = 26) (hv : InR val) (hc : code ≤ 1) : MH E l yL_text cL_text 5 (some .int) hhL_text 8 128 2 12 [.ref x, .int (i32 p0), .int (i32 p1), .ref out] G (rkWp G out code val P1) := by
  refine mh_of (own := RL) (L := [some (.ref x), some (.int (i32 p0)), some (.int (i32 p1)), some (.ref out), none]) (by decide +kernel) rfl (Nat.le_of_ble_eq_true rfl) (List.forall_mem_cons.mpr ⟨rfl, (List.forall_mem_cons.mpr ⟨rfl, (List.forall_mem_cons.mpr ⟨rfl, (List.forall_mem_cons.mpr ⟨rfl, (fun _ h => absurd h List.not_mem_nil)⟩)⟩)⟩)⟩) rfl ?_
  intro p e s m args below meth c C htab
  refine x_aload_n 1 C dL_text_0 rfl rfl ?_
  refine x_iconst 2 C dL_text_1 rfl ?_
  refine x_aload_n 3 C dL_text_2 rfl rfl ?_
  refine x_iload_n 4 C dL_text_3 rfl rfl ?_
  refine x_iload_n 5 C dL_text_4 rfl rfl ?_
  refine x_callVC (As := [_, _]) 8 14 0 0 C vw_L_35 iw_X11_text sw_X11_text hM lk_L_35 dL_text_5 rfl rfl rfl rfl rfl rfl hk ⟨Nat.le_of_ble_eq_true rfl, Nat.le_of_ble_eq_true rfl⟩ (Nat.le_of_ble_eq_true rfl) ⟨by omega, by omega⟩ (fun nx G' hx => ?_) (fun v G' hq => ?_)
  · obtain ⟨rfl, hx⟩ := hx
    rcases hx with ⟨rfl, hx⟩ | ⟨rfl, hx⟩ | ⟨rfl, hx⟩
    · refine ⟨13, ⟨[], ⟨0, 10, 13, 13⟩, [], htab.trans rfl, (fun z hz => absurd hz List.not_mem_nil), by decide, by decide, ⟨_, kl_L_13, kn_L_13⟩, rfl⟩, fun q => ?_⟩
      refine x_astore 15 C dL_text_13 rfl rfl rfl ?_
      refine x_iconst 16 C dL_text_15 rfl ?_
      exact x_iret C dL_text_16 rfl ⟨vi hx.symm, Or.inr ⟨by omega, rfl⟩⟩
    · exact absurd hc (by omega)
    · exact absurd hc (by omega)
  · obtain ⟨rfl, hc0, hq⟩ := hq
    refine x_as rfl rfl rfl ?_
    refine x_i2l 9 C hv dL_text_8 rfl ?_
    refine x_last1 10 C (hK1 _ hq) hv dL_text_9 rfl ?_
    refine x_goto 17 C dL_text_10 (by decide) ?_
    refine x_iconst 18 C dL_text_17 rfl ?_
    exact x_iret C dL_text_18 rfl ⟨vi hc0.symm, Or.inl ⟨hc0, _, hq, rfl⟩⟩
set_option maxHeartbeats 2000000 in
set_option maxRecDepth 100000 in
theorem c_L_toggleSuffix {E : EV} {l : Launch} {G : GT} {x : Nat} {p0 : Int} {code val : Int} {out : Nat} {P1 : GT → Prop} (hk : gK G x = 14) (hM : MX E l yX11_toggleSuffix cX11_toggleSuffix 3 (some .boolean) 7 105 1 6 [.ref x, .int (i32 p0)] G (fun v G' => v = some (.int (i32 val)) ∧ code = 0 ∧ P1 G') (fun nx G' => G' = G ∧ rkX nx code)) (hK1 : ∀ G', P1 G' → gK G' out = 26) (hv : val = 0 ∨ val = 1) (hc : code ≤ 1) : MH E l yL_toggleSuffix cL_toggleSuffix 4 (some .int) hhL_toggleSuffix 8 127 1 6 [.ref x, .int (i32 p0), .ref out] G (rkWp G out code val P1) := by
  refine mh_of (own := RL) (L := [some (.ref x), some (.int (i32 p0)), some (.ref out), none]) (by decide +kernel) rfl (Nat.le_of_ble_eq_true rfl) (List.forall_mem_cons.mpr ⟨rfl, (List.forall_mem_cons.mpr ⟨rfl, (List.forall_mem_cons.mpr ⟨rfl, (fun _ h => absurd h List.not_mem_nil)⟩)⟩)⟩) rfl ?_
  intro p e s m args below meth c C htab
  refine x_aload_n 1 C dL_toggleSuffix_0 rfl rfl ?_
  refine x_iconst 2 C dL_toggleSuffix_1 rfl ?_
  refine x_aload_n 3 C dL_toggleSuffix_2 rfl rfl ?_
  refine x_iload_n 4 C dL_toggleSuffix_3 rfl rfl ?_
  refine x_callVC (As := [_]) 7 14 0 0 C vw_L_19 iw_X11_toggleSuffix sw_X11_toggleSuffix hM lk_L_19 dL_toggleSuffix_4 rfl rfl rfl rfl rfl rfl hk ⟨Nat.le_of_ble_eq_true rfl, Nat.le_of_ble_eq_true rfl⟩ (Nat.le_of_ble_eq_true rfl) ⟨by omega, by omega⟩ (fun nx G' hx => ?_) (fun v G' hq => ?_)
  · obtain ⟨rfl, hx⟩ := hx
    rcases hx with ⟨rfl, hx⟩ | ⟨rfl, hx⟩ | ⟨rfl, hx⟩
    · refine ⟨19, ⟨[], ⟨0, 16, 19, 13⟩, [], htab.trans rfl, (fun z hz => absurd hz List.not_mem_nil), by decide, by decide, ⟨_, kl_L_13, kn_L_13⟩, rfl⟩, fun q => ?_⟩
      refine x_astore_n 20 C dL_toggleSuffix_19 rfl rfl rfl ?_
      refine x_iconst 21 C dL_toggleSuffix_20 rfl ?_
      exact x_iret C dL_toggleSuffix_21 rfl ⟨vi hx.symm, Or.inr ⟨by omega, rfl⟩⟩
    · exact absurd hc (by omega)
    · exact absurd hc (by omega)
  · obtain ⟨rfl, hc0, hq⟩ := hq
    refine x_as rfl rfl rfl ?_
    refine x_if_eq 10 14 C dL_toggleSuffix_7 rfl (by decide) (by rcases hv with hv | hv <;> rw [hv] <;> exact ⟨by decide, by decide⟩) (fun h => ?_) (fun h => ?_)
    · subst h
      refine x_lconst0 15 C dL_toggleSuffix_14 rfl ?_
      refine x_last1 16 C (hK1 _ hq) ⟨by decide, by decide⟩ dL_toggleSuffix_15 rfl ?_
      refine x_goto 22 C dL_toggleSuffix_16 (by decide) ?_
      refine x_iconst 23 C dL_toggleSuffix_22 rfl ?_
      exact x_iret C dL_toggleSuffix_23 rfl ⟨vi hc0.symm, Or.inl ⟨hc0, _, hq, rfl⟩⟩
    · have h1 : val = 1 := hv.resolve_left h
      subst h1
      refine x_lconst1 11 C dL_toggleSuffix_10 rfl ?_
      refine x_goto 15 C dL_toggleSuffix_11 (by decide) ?_
      refine x_last1 16 C (hK1 _ hq) ⟨by decide, by decide⟩ dL_toggleSuffix_15 rfl ?_
      refine x_goto 22 C dL_toggleSuffix_16 (by decide) ?_
      refine x_iconst 23 C dL_toggleSuffix_22 rfl ?_
      exact x_iret C dL_toggleSuffix_23 rfl ⟨vi hc0.symm, Or.inl ⟨hc0, _, hq, rfl⟩⟩
