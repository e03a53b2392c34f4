/-! fields: what a field instruction needs of the tables, in one word FW (class own, entry idx: field j of class ci; fin: it is final) -/
def tyk : FieldType → Nat := fun t => match t with
  | .int => 0
  | .boolean => 1
  | .object _ => 2
  | .array _ => 2
  | _ => 3
def FW (own : String) (idx ci j tk : Nat) (fin : Bool) : Prop := ∃ (Cn : String) (Tn : u_T) (N : Nat) (ty : Nat → FieldType), CL[ci]? = some (Cn, Tn, N) ∧ (∀ w ∈ u_ws Cn Tn N, w ∈ AW) ∧ j < N ∧ N = NF ci ∧ (∀ k, k < N → parseFieldDescriptor (Tn k).2.2.1 = some (ty k)) ∧ (∀ a, a < N → ∀ b, b < N → a ≠ b → (Tn a).2.1 ≠ (Tn b).2.1) ∧ tyk (ty j) = tk ∧ (Tn j).2.2.2 = fin ∧ (fin = true → (Tn j).1 = own) ∧
  (Cond.fieldLink own idx (Tn j).1 (Tn j).2.1 (Tn j).2.2.1 ∈ AW ∨ (fin = false ∧ ∃ host : String, Cond.fieldLinkNest own idx (Tn j).1 (Tn j).2.1 (Tn j).2.2.1 host ∈ NW))
/-- the same for a read: finality doesn't matter -/
def FR (own : String) (idx ci j : Nat) : Prop := ∃ (Cn : String) (Tn : u_T) (N : Nat), CL[ci]? = some (Cn, Tn, N) ∧ (∀ w ∈ u_ws Cn Tn N, w ∈ AW) ∧ j < N ∧ N = NF ci ∧
  (Cond.fieldLink own idx (Tn j).1 (Tn j).2.1 (Tn j).2.2.1 ∈ AW ∨ (∃ host : String, Cond.fieldLinkNest own idx (Tn j).1 (Tn j).2.1 (Tn j).2.2.1 host ∈ NW))
section XF
variable {E : EV} {p : Program} {l : Launch} {e : Env} {R : Room} {s : State} {m : MethodId} {args : Array Value} {below : List Frame} {meth : Method} {c : Code} {cc : ByteArray} {nL mc ms : Nat} {own : String} {ret : Option FieldType} {Q : State → Prop} {G : GT} {kc ks pc : Nat} {L : List (Option Value)} {st : List Value} {H : Heap} {locs : List Loc} {cells slots : Nat} {ls : Array Slot}
theorem w_getf {idx ci j a : Nat} {fs : List Value} {v : Value} (C : CX E p R s m args meth c cc nL own mc ms ret) (F : FR own idx ci j) (hv : va_at E.1 CL (a, .inr (ci, fs)) H) (hj : fs[j]? = some v) (d : decode cc pc = .ok (.getfield idx, 3))
    (k : W p l e R s m args below meth c H locs cells slots Q (F0 m (pc + 3) ls (v :: st))) : W p l e R s m args below meth c H locs cells slots Q (F0 m pc ls (.ref a :: st)) := by
  obtain ⟨hx, hb, hml, hown, hts, hK, -, -, -, -, -, hNW⟩ := C
  obtain ⟨Cn, Tn, N, hc, hin, hjN, -, hl⟩ := F
  have hP : va_P E.1 CL [(a, .inr (ci, fs))] H := fun k q hq => by
    cases k with
    | zero => cases hq; exact hv
    | succ k => simp at hq
  rcases hl with hl | ⟨host, hl⟩
  · exact va_get hx hb hts hin hown hK hP 0 rfl hc j hjN (hts _ hl) (fun _ h9 => h9) hj d k
  · exact va_getN hx hb hts hin hown hK hP 0 rfl hc j hjN (va_Nw.use rfl (hNW _ hl)) (fun _ h9 => h9) hj d k
theorem w_putf {idx ci j a tk : Nat} {fs : List Value} {v : Value} (C : CX E p R s m args meth c cc nL own mc ms ret) (F : FW own idx ci j tk false) (hv : va_at E.1 CL (a, .inr (ci, fs)) H) (hl : j < fs.length) (hfit : ∀ ty, tyk ty = tk → narrow ty v = v ∧ fits ty v = true) (d : decode cc pc = .ok (.putfield idx, 3))
    (kk : ∀ (H1 : Heap) (sl : Nat), va_at E.1 CL (a, .inr (ci, fs.set j v)) H1 → H1.size = H.size → (∀ q : Nat, q ≠ a → H1[q]? = H[q]?) → W p l e R s m args below meth c H1 (locs ++ [⟨a, sl⟩]) cells slots Q (F0 m (pc + 3) ls st)) : W p l e R s m args below meth c H locs cells slots Q (F0 m pc ls (v :: .ref a :: st)) := by
  obtain ⟨hx, hb, hml, hown, hts, hK, -, -, -, -, -, hNW⟩ := C
  obtain ⟨Cn, Tn, N, ty, hc, hin, hjN, -, hty, hnm, htk, hfin, -, hlk⟩ := F
  have hap := va_apart (own := own) hts hin ty hty hnm hK hc
  obtain ⟨r, h1, cell, q1, q2, q3, q4⟩ := hv
  have hr : r = (Cn, Tn, N) := Option.some.inj (h1.symm.trans hc)
  subst hr
  obtain ⟨hS, hfc, kC, hkC, hkind⟩ := hK.1 ci _ hc
  obtain ⟨cf, kf, fi, f, hi, hsl⟩ := hS j hjN
  have hlay := hts _ (hin _ (u_in_lay hjN))
  unfold u_lay at hlay
  rw [if_neg (by rw [hfin]; decide)] at hlay
  have hst := (u_facts hfc hkC (u_lays hts hin hjN) hi).1
  obtain ⟨f1, f2⟩ := hfit _ htk
  have h6 := u_store hfc hkC hkind hlay hi (hty j hjN) f1 f2
  have fin : ∀ H' : Heap, H'[a]? = some (cell.setSlot f.slot v) → H'.size = H.size → (∀ q, q ≠ a → H'[q]? = H[q]?) → W p l e R s m args below meth c H' (locs ++ [⟨a, f.slot⟩]) cells slots Q (F0 m (pc + 3) ls st) := by
    intro H' e1 e2 e3
    rw [hsl] at e1
    exact kk H' _ ⟨_, hc, t_OB.to (V := updV (vp_V fs) j v) ⟨_, e1, q2, q3, t_set q4 hap hjN v⟩ (fun j' _ => vp_updV_set hl v j')⟩ e2 e3
  rcases hlk with hlk | ⟨-, host, hlk⟩
  · exact W.putK hx hb (f := f) ⟨hown, hts _ hlk, ⟨_, _, _, hi⟩, hst⟩ (by rw [q2]; exact h6) q1 q3 (by rw [hsl]; exact k2_hasslot (q4 j hjN)) rfl rfl d fin
  · exact va_WputK hx hb (f := f) hown (va_Nw.use rfl (hNW _ hlk)) hi hst (by rw [q2]; exact h6) q1 q3 (by rw [hsl]; exact k2_hasslot (q4 j hjN)) rfl rfl d fin
theorem w_putF {idx ci j a tk : Nat} {fs : List Value} {v : Value} (C : CX E p R s m args meth c cc nL own mc ms ret) (F : FW own idx ci j tk true) (hin2 : meth.name = "<init>") (hv : va_at E.1 CL (a, .inr (ci, fs)) H) (hl : j < fs.length) (hfit : ∀ ty, tyk ty = tk → narrow ty v = v ∧ fits ty v = true) (d : decode cc pc = .ok (.putfield idx, 3))
    (kk : ∀ (H1 : Heap) (sl : Nat), va_at E.1 CL (a, .inr (ci, fs.set j v)) H1 → H1.size = H.size → (∀ q : Nat, q ≠ a → H1[q]? = H[q]?) → W p l e R s m args below meth c H1 (locs ++ [⟨a, sl⟩]) cells slots Q (F0 m (pc + 3) ls st)) : W p l e R s m args below meth c H locs cells slots Q (F0 m pc ls (v :: .ref a :: st)) := by
  obtain ⟨hx, hb, hml, hown, hts, hK, -, -, -, -, -, hNW⟩ := C
  obtain ⟨Cn, Tn, N, ty, hc, hin, hjN, -, hty, hnm, htk, hfin, hdecl, hlk⟩ := F
  have hdecl := hdecl rfl
  have hap := va_apart (own := own) hts hin ty hty hnm hK hc
  obtain ⟨r, h1, cell, q1, q2, q3, q4⟩ := hv
  have hr : r = (Cn, Tn, N) := Option.some.inj (h1.symm.trans hc)
  subst hr
  obtain ⟨hS, hfc, kC, hkC, hkind⟩ := hK.1 ci _ hc
  obtain ⟨cf, kf, fi, f, hi, hsl⟩ := hS j hjN
  have hlay := hts _ (hin _ (u_in_lay hjN))
  unfold u_lay at hlay
  rw [if_pos hfin] at hlay
  have hst := (u_facts hfc hkC (u_lays hts hin hjN) hi).1
  have hcf : m.cls = cf := by
    obtain ⟨_, _, c', _, _, _, -, -, hf', -, -, -, hown2, -⟩ := Cond.laysFinal_spec hlay
    have e1 : c' = cf := by have := hi.symm.trans hf'; simp at this; exact this.1.symm
    rw [hdecl] at hown2
    rw [← e1]; exact Option.some.inj (hown.symm.trans hown2)
  obtain ⟨f1, f2⟩ := hfit _ htk
  have h6 := u_fits hfc hkC hkind (Or.inr hlay) hi (hty j hjN) f1 f2
  have fin : ∀ H' : Heap, H'[a]? = some (cell.setSlot f.slot v) → H'.size = H.size → (∀ q, q ≠ a → H'[q]? = H[q]?) → W p l e R s m args below meth c H' (locs ++ [⟨a, f.slot⟩]) cells slots Q (F0 m (pc + 3) ls st) := by
    intro H' e1 e2 e3
    rw [hsl] at e1
    exact kk H' _ ⟨_, hc, t_OB.to (V := updV (vp_V fs) j v) ⟨_, e1, q2, q3, t_set q4 hap hjN v⟩ (fun j' _ => vp_updV_set hl v j')⟩ e2 e3
  rcases hlk with hlk | ⟨h0, -⟩
  · exact W.putFinK hx hb hown (hts _ hlk) hi hst hcf hin2 (by rw [q2]; exact h6) q1 q3 (by rw [hsl]; exact k2_hasslot (q4 j hjN)) rfl rfl d fin
  · cases h0
end XF
theorem fl_get {G : GT} {c a j : Nat} (h : j < NF c) : (fl G c a)[j]? = some (fv G c a j) := by
  unfold fl
  rw [List.getElem?_map, List.getElem?_range h]
  rfl
theorem fl_len {G : GT} {c a : Nat} : (fl G c a).length = NF c := by
  unfold fl
  rw [List.length_map, List.length_range]
theorem fl_set {G G' : GT} {c a j : Nat} {v : Value} (hv : fv G' c a j = v) (ho : ∀ i, i ≠ j → i < NF c → fv G' c a i = fv G c a i) : (fl G c a).set j v = fl G' c a := by
  refine List.ext_getElem? (fun i => ?_)
  by_cases hi : i < NF c
  · by_cases hij : i = j
    · subst hij
      rw [List.getElem?_set_self (by rw [fl_len]; exact hi), fl_get hi, hv]
    · rw [List.getElem?_set_ne (fun z => hij z.symm), fl_get hi, fl_get hi, ho i hij hi]
  · rw [List.getElem?_eq_none (by rw [List.length_set, fl_len]; omega), List.getElem?_eq_none (by rw [fl_len]; omega)]
theorem ent_obj {E : EV} {G : GT} {a k : Nat} (h : gK G a = k) (h3 : 3 ≤ k ∧ k ≤ 14) : ent E G a = some (.inr (k, fl G k a)) := by
  subst h
  unfold ent
  rw [if_pos h3]
/-! writing one field of the picture -/
theorem wf_sI {G : GT} {k a : Nat} {v : Int} (h : wfG G) (hv : InR v) (hz : isZ k = true → v = 0 ∨ v = 1) : wfG (sI G k a v) := by
  obtain ⟨w1, w2, w3, w4, w5, w6, w7⟩ := h
  refine ⟨fun k' a' => ?_, w2, w3, fun k' a' hk => ?_, w5, w6, w7⟩
  · show InR (u2 G.2.1 k a v k' a')
    unfold u2
    split
    · exact hv
    · exact w1 k' a'
  · show u2 G.2.1 k a v k' a' = 0 ∨ u2 G.2.1 k a v k' a' = 1
    unfold u2
    split
    · rename_i z
      exact hz (z.1 ▸ hk)
    · exact w4 k' a' hk
theorem wf_sP {G : GT} {k a : Nat} {v : Option Nat} (h : wfG G) : wfG (sP G k a v) := h
theorem hp_sI {E : EV} {G : GT} {H H1 : Heap} {ci j k a : Nat} {v : Int} (h : hp E G H) (hk : gK G a = ci) (h3 : 3 ≤ ci ∧ ci ≤ 14) (hf : 100 * ci + j = k) (hr : isR k = false) (hv : InR v) (hz : isZ k = true → v = 0 ∨ v = 1)
    (hat : va_at E.1 CL (a, .inr (ci, (fl G ci a).set j (.int (i32 v)))) H1) (hq : ∀ q : Nat, q ≠ a → H1[q]? = H[q]?) : hp E (sI G k a v) H1 := by
  have e : (fl G ci a).set j (.int (i32 v)) = fl (sI G k a v) ci a := by
    subst hf
    refine fl_set ?_ (fun i hij _ => ?_)
    · unfold fv
      rw [hr]
      show Value.int (i32 (u2 G.2.1 (100 * ci + j) a v (100 * ci + j) a)) = _
      rw [u2_s]
    · unfold fv
      show (if _ then _ else Value.int (i32 (u2 G.2.1 (100 * ci + j) a v (100 * ci + i) a))) = _
      rw [u2_k (by omega)]
      rfl
  rw [e] at hat
  refine h.put (ent_obj hk h3) (ent_obj (G := sI G k a v) hk h3) rfl rfl (fun x hx => ent_eq rfl (fun k' => u2_a hx) (fun _ => rfl) (fun _ => rfl) (fun _ _ _ => rfl)) (wf_sI h.wf hv hz) hat hq
theorem hp_sP {E : EV} {G : GT} {H H1 : Heap} {ci j k a : Nat} {v : Option Nat} (h : hp E G H) (hk : gK G a = ci) (h3 : 3 ≤ ci ∧ ci ≤ 14) (hf : 100 * ci + j = k) (hr : isR k = true)
    (hat : va_at E.1 CL (a, .inr (ci, (fl G ci a).set j (va_rf v))) H1) (hq : ∀ q : Nat, q ≠ a → H1[q]? = H[q]?) : hp E (sP G k a v) H1 := by
  have e : (fl G ci a).set j (va_rf v) = fl (sP G k a v) ci a := by
    subst hf
    refine fl_set ?_ (fun i hij _ => ?_)
    · unfold fv
      rw [hr]
      show va_rf (u2 G.2.2.1 (100 * ci + j) a v (100 * ci + j) a) = _
      rw [u2_s]
    · unfold fv
      show (if _ then va_rf (u2 G.2.2.1 (100 * ci + j) a v (100 * ci + i) a) else _) = _
      rw [u2_k (by omega)]
      rfl
  rw [e] at hat
  refine h.put (ent_obj hk h3) (ent_obj (G := sP G k a v) hk h3) rfl rfl (fun x hx => ent_eq rfl (fun _ => rfl) (fun k' => u2_a hx) (fun _ => rfl) (fun _ _ _ => rfl)) h.wf hat hq
theorem fits_int {v : Int32} : ∀ ty, tyk ty = 0 → narrow ty (.int v) = .int v ∧ fits ty (.int v) = true := by
  intro ty h
  cases ty <;> simp [tyk] at h
  exact ⟨rfl, rfl⟩
theorem fits_bool {v : Int} (hv : v = 0 ∨ v = 1) : ∀ ty, tyk ty = 1 → narrow ty (.int (i32 v)) = .int (i32 v) ∧ fits ty (.int (i32 v)) = true := by
  intro ty h
  cases ty <;> simp [tyk] at h
  rcases hv with rfl | rfl <;> exact ⟨rfl, rfl⟩
theorem fits_ref {v : Option Nat} : ∀ ty, tyk ty = 2 → narrow ty (va_rf v) = va_rf v ∧ fits ty (va_rf v) = true := by
  intro ty h
  cases ty <;> simp [tyk] at h <;> cases v <;> exact ⟨rfl, rfl⟩
section XG
variable {E : EV} {p : Program} {l : Launch} {e : Env} {R : Room} {s : State} {m : MethodId} {args : Array Value} {below : List Frame} {meth : Method} {c : Code} {cc : ByteArray} {nL mc ms : Nat} {own : String} {ret : Option FieldType} {Q : State → Prop} {G : GT} {kc ks pc : Nat} {L : List (Option Value)} {st : List Value}
/-- an int field of an object -/
theorem x_getI (n f : Nat) {ci j idx a : Nat} (C : CX E p R s m args meth c cc nL own mc ms ret) (F : FR own idx ci j) (d : decode cc pc = .ok (.getfield idx, 3)) (hn : pc + 3 = n) (hf : 100 * ci + j = f) (hr : isR f = false) (h3 : (Nat.ble 3 ci && Nat.ble ci 14) = true) (hk : gK G a = ci)
    (k : XW E p l e R s m args below meth c nL mc ms Q G kc ks n L (.int (i32 (gI G f a)) :: st)) : XW E p l e R s m args below meth c nL mc ms Q G kc ks pc L (.ref a :: st) := by
  subst hn
  subst hf
  intro H locs cells slots ls h1 h2 h3' h4 h5
  have hh : 3 ≤ ci ∧ ci ≤ 14 := by simp at h3; exact h3
  have hj : j < NF ci := by obtain ⟨_, _, N, _, _, hj, e, _⟩ := F; rw [← e]; exact hj
  refine w_getf C F (h1.get (ent_obj hk hh)).1 (fl_get hj) d ?_
  unfold fv
  rw [hr]
  exact k H locs cells slots ls h1 h2 h3' h4 h5
/-- a reference field of an object -/
theorem x_getP (n f : Nat) {ci j idx a : Nat} (C : CX E p R s m args meth c cc nL own mc ms ret) (F : FR own idx ci j) (d : decode cc pc = .ok (.getfield idx, 3)) (hn : pc + 3 = n) (hf : 100 * ci + j = f) (hr : isR f = true) (h3 : (Nat.ble 3 ci && Nat.ble ci 14) = true) (hk : gK G a = ci)
    (k : XW E p l e R s m args below meth c nL mc ms Q G kc ks n L (va_rf (gP G f a) :: st)) : XW E p l e R s m args below meth c nL mc ms Q G kc ks pc L (.ref a :: st) := by
  subst hn
  subst hf
  intro H locs cells slots ls h1 h2 h3' h4 h5
  have hh : 3 ≤ ci ∧ ci ≤ 14 := by simp at h3; exact h3
  have hj : j < NF ci := by obtain ⟨_, _, N, _, _, hj, e, _⟩ := F; rw [← e]; exact hj
  refine w_getf C F (h1.get (ent_obj hk hh)).1 (fl_get hj) d ?_
  unfold fv
  rw [hr]
  exact k H locs cells slots ls h1 h2 h3' h4 h5
/-- the same, known to be an object -/
theorem x_getO (n f : Nat) {ci j idx a b : Nat} (C : CX E p R s m args meth c cc nL own mc ms ret) (F : FR own idx ci j) (d : decode cc pc = .ok (.getfield idx, 3)) (hn : pc + 3 = n) (hf : 100 * ci + j = f) (hr : isR f = true) (h3 : (Nat.ble 3 ci && Nat.ble ci 14) = true) (hk : gK G a = ci) (hb : gP G f a = some b)
    (k : XW E p l e R s m args below meth c nL mc ms Q G kc ks n L (.ref b :: st)) : XW E p l e R s m args below meth c nL mc ms Q G kc ks pc L (.ref a :: st) :=
  x_getP n f C F d hn hf hr h3 hk (by rw [hb]; exact k)
theorem x_putI (n f : Nat) {ci j idx a : Nat} {v : Int} {fin : Bool} (C : CX E p R s m args meth c cc nL own mc ms ret) (F : FW own idx ci j 0 fin) (hin : fin = true → meth.name = "<init>") (d : decode cc pc = .ok (.putfield idx, 3)) (hn : pc + 3 = n) (hf : 100 * ci + j = f) (hr : isR f = false) (hz : isZ f = false) (h3 : (Nat.ble 3 ci && Nat.ble ci 14) = true) (hk : gK G a = ci) (hv : InR v)
    (k : XW E p l e R s m args below meth c nL mc ms Q (sI G f a v) kc ks n L st) : XW E p l e R s m args below meth c nL mc ms Q G kc ks pc L (.int (i32 v) :: .ref a :: st) := by
  subst hn
  intro H locs cells slots ls h1 h2 h3' h4 h5
  have hh : 3 ≤ ci ∧ ci ≤ 14 := by simp at h3; exact h3
  have hj : j < NF ci := by obtain ⟨_, _, N, _, _, _, hj, e, _⟩ := F; rw [← e]; exact hj
  obtain ⟨g1, g2⟩ := h1.get (ent_obj (E := E) hk hh)
  have go : ∀ (H1 : Heap) (sl : Nat), va_at E.1 CL (a, .inr (ci, (fl G ci a).set j (.int (i32 v)))) H1 → H1.size = H.size → (∀ q : Nat, q ≠ a → H1[q]? = H[q]?) → W p l e R s m args below meth c H1 (locs ++ [⟨a, sl⟩]) cells slots Q (F0 m (pc + 3) ls st) :=
    fun H1 sl a1 a2 a3 => k H1 _ cells slots ls (hp_sI h1 hk hh hf hr hv (fun z => by rw [hz] at z; cases z) a1 a3) (h2.put a2 a3 g2) h3' h4 h5
  cases fin with
  | false => exact w_putf C F g1 (by rw [fl_len]; exact hj) fits_int d go
  | true => exact w_putF C F (hin rfl) g1 (by rw [fl_len]; exact hj) fits_int d go
theorem x_putZ (n f : Nat) {ci j idx a : Nat} {v : Int} {fin : Bool} (C : CX E p R s m args meth c cc nL own mc ms ret) (F : FW own idx ci j 1 fin) (hin : fin = true → meth.name = "<init>") (d : decode cc pc = .ok (.putfield idx, 3)) (hn : pc + 3 = n) (hf : 100 * ci + j = f) (hr : isR f = false) (h3 : (Nat.ble 3 ci && Nat.ble ci 14) = true) (hk : gK G a = ci) (hv : v = 0 ∨ v = 1)
    (k : XW E p l e R s m args below meth c nL mc ms Q (sI G f a v) kc ks n L st) : XW E p l e R s m args below meth c nL mc ms Q G kc ks pc L (.int (i32 v) :: .ref a :: st) := by
  subst hn
  intro H locs cells slots ls h1 h2 h3' h4 h5
  have hh : 3 ≤ ci ∧ ci ≤ 14 := by simp at h3; exact h3
  have hj : j < NF ci := by obtain ⟨_, _, N, _, _, _, hj, e, _⟩ := F; rw [← e]; exact hj
  obtain ⟨g1, g2⟩ := h1.get (ent_obj (E := E) hk hh)
  have go : ∀ (H1 : Heap) (sl : Nat), va_at E.1 CL (a, .inr (ci, (fl G ci a).set j (.int (i32 v)))) H1 → H1.size = H.size → (∀ q : Nat, q ≠ a → H1[q]? = H[q]?) → W p l e R s m args below meth c H1 (locs ++ [⟨a, sl⟩]) cells slots Q (F0 m (pc + 3) ls st) :=
    fun H1 sl a1 a2 a3 => k H1 _ cells slots ls (hp_sI h1 hk hh hf hr (by rcases hv with rfl | rfl <;> exact ⟨by omega, by omega⟩) (fun _ => hv) a1 a3) (h2.put a2 a3 g2) h3' h4 h5
  cases fin with
  | false => exact w_putf C F g1 (by rw [fl_len]; exact hj) (fits_bool hv) d go
  | true => exact w_putF C F (hin rfl) g1 (by rw [fl_len]; exact hj) (fits_bool hv) d go
theorem x_putP (n f : Nat) {ci j idx a : Nat} {v : Option Nat} {fin : Bool} (C : CX E p R s m args meth c cc nL own mc ms ret) (F : FW own idx ci j 2 fin) (hin : fin = true → meth.name = "<init>") (d : decode cc pc = .ok (.putfield idx, 3)) (hn : pc + 3 = n) (hf : 100 * ci + j = f) (hr : isR f = true) (h3 : (Nat.ble 3 ci && Nat.ble ci 14) = true) (hk : gK G a = ci)
    (k : XW E p l e R s m args below meth c nL mc ms Q (sP G f a v) kc ks n L st) : XW E p l e R s m args below meth c nL mc ms Q G kc ks pc L (va_rf v :: .ref a :: st) := by
  subst hn
  intro H locs cells slots ls h1 h2 h3' h4 h5
  have hh : 3 ≤ ci ∧ ci ≤ 14 := by simp at h3; exact h3
  have hj : j < NF ci := by obtain ⟨_, _, N, _, _, _, hj, e, _⟩ := F; rw [← e]; exact hj
  obtain ⟨g1, g2⟩ := h1.get (ent_obj (E := E) hk hh)
  have go : ∀ (H1 : Heap) (sl : Nat), va_at E.1 CL (a, .inr (ci, (fl G ci a).set j (va_rf v))) H1 → H1.size = H.size → (∀ q : Nat, q ≠ a → H1[q]? = H[q]?) → W p l e R s m args below meth c H1 (locs ++ [⟨a, sl⟩]) cells slots Q (F0 m (pc + 3) ls st) :=
    fun H1 sl a1 a2 a3 => k H1 _ cells slots ls (hp_sP h1 hk hh hf hr a1 a3) (h2.put a2 a3 g2) h3' h4 h5
  cases fin with
  | false => exact w_putf C F g1 (by rw [fl_len]; exact hj) fits_ref d go
  | true => exact w_putF C F (hin rfl) g1 (by rw [fl_len]; exact hj) fits_ref d go
theorem x_putO (n f : Nat) {ci j idx a b : Nat} {fin : Bool} (C : CX E p R s m args meth c cc nL own mc ms ret) (F : FW own idx ci j 2 fin) (hin : fin = true → meth.name = "<init>") (d : decode cc pc = .ok (.putfield idx, 3)) (hn : pc + 3 = n) (hf : 100 * ci + j = f) (hr : isR f = true) (h3 : (Nat.ble 3 ci && Nat.ble ci 14) = true) (hk : gK G a = ci)
    (k : XW E p l e R s m args below meth c nL mc ms Q (sP G f a (some b)) kc ks n L st) : XW E p l e R s m args below meth c nL mc ms Q G kc ks pc L (.ref b :: .ref a :: st) :=
  x_putP (v := some b) n f C F hin d hn hf hr h3 hk k
end XG
