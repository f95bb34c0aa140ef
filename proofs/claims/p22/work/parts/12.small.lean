/-! The class: small methods, what it refuses (by p12.py) -/
theorem ou_nar (v lo hi : Int32) : narrow .boolean (.int (ouI v lo hi)) = .int (ouI v lo hi) := by
  unfold ouI
  by_cases h : v < lo ∨ ¬ v ≤ hi
  · rw [if_pos h]; decide
  · rw [if_neg h]; decide
set_option maxHeartbeats 4000000 in
set_option maxRecDepth 100000 in
/-- isNoMachine(v) -/
theorem c_X4_isNoMachine (l : Launch) (D : va_G) (cA : Nat → ClassId) (e0 : Nat) (A : Nat → Prop) (H0 : Heap) (ad : Nat → Nat → Nat) (g : Nat → Nat → Int32) (tt : Nat → Int64) (N : Nat → Nat) (hX : xW D cA ad g tt N H0) (v : Int32) : Met l yX4_isNoMachine w_X4_isNoMachine ({ frames := 1, cells := 0, slots := 0, locals := 22 } : Room) (xPc D cA e0 A H0 [.ref (ad 0 0), .int (v)]) (xR (some (.int (ouI v (nI 0) (nI (N 0) - nI 1))))) 0 0 (xNo) := by
  refine Met.ofW (cc := cX4_isNoMachine) (maxL := 2) (ret := (some .boolean)) (by decide) rfl ?_
  intro p e s m args below meth c s₁ B hml hv
  obtain ⟨rfl, hH, hE⟩ := hv
  subst hH
  have hx := B.exec
  have hb := B.bytes
  have hr := B.returns
  have hts := hE.1.all ([.ref (ad 0 0), .int (v)] : List Value).toArray
  have hown : s.vm.findClass RX4 = some m.cls := findClass_of_methodNamed B.named
  have hlocks := B.notSynchronized
  have hK := hE.2.1
  have hS : va_S A s.heap s.heap [] := va_S.rf
  have hl := lv_entry ([.ref (ad 0 0), .int (v)]) (n := 2) (Nat.le_of_ble_eq_true rfl)
  rw [lg_entry_eq]
  generalize (lg_sl ([.ref (ad 0 0), .int (v)]) ++ List.replicate (2 - (lg_sl ([.ref (ad 0 0), .int (v)])).length) Slot.unset).toArray = ls at hl ⊢
  have hl : lv_has ls 2 [(0, .ref (ad 0 0)), (1, .int (v))] := hl
  refine lv_iload_n hx hb dX4_isNoMachine_0 rfl (lv_at hl 1 rfl) ?_
  refine lv_iconst (v := nI 0) hx hb dX4_isNoMachine_1 (by decide) ?_
  refine lv_aload_n hx hb dX4_isNoMachine_2 rfl (lv_at hl 0 rfl) ?_
  refine va_get (D := D) (ci := 5) (v := .ref (ad 0 1)) (C := RX4) (T := TX4) (N := 11) hx hb hts qi_X4 hown hK (xP1 (hX.main)) 0 rfl rfl 0 (by decide) (hts _ q_fl_X4_10) (fun _ h9 => h9) rfl dX4_isNoMachine_3 ?_
  refine xcRi (va_runV (As := []) (rest := [.int (nI 0), .int (v)]) ⟨hx, hb, hml, hown, hts⟩ (c_Jx4a65c_size_8abf5 l D cA e0 A s.heap (ad 0 1) (g 18 0) (ad 0 9) (nI (N 0)) (hX.ml)) ⟨(callB_of 0 hts gi_Jx4a65c_size_8abf5 rfl rfl rfl (hts _ q_ini_Jx4a65c) (hts _ q_ml_X4_48) hd_Jx4a65c_size_8abf5 ⟨Nat.le_of_ble_eq_true rfl, Nat.le_of_ble_eq_true rfl⟩), hts _ q_im_Jx4a65c_size_8abf5, hts _ q_sel_Jx4a65c_Jx4a65c_size_8abf5⟩ (xpV hE hS (hX.ml) rfl) rfl rfl hl.1 rfl (lv_room (Nat.le_of_ble_eq_true rfl)) dX4_isNoMachine_6 ⟨Nat.le_of_ble_eq_true rfl, Nat.le_of_ble_eq_true rfl⟩) ?_
  refine lv_iconst (v := nI 1) hx hb dX4_isNoMachine_9 (by decide) ?_
  refine lv_isub hx hb dX4_isNoMachine_10 ?_
  refine xcRi (va_runS (As := [.int (v), .int (nI 0), .int ((nI (N 0)) - (nI 1))]) (rest := []) ⟨hx, hb, hml, hown, hts⟩ (c_X4_outside l D cA e0 A s.heap v (nI 0) ((nI (N 0)) - (nI 1))) ⟨(callB_of 3 hts gi_X4_outside rfl rfl rfl (hts _ q_ini_X4) (hts _ q_ml_X4_37) hd_X4_outside ⟨Nat.le_of_ble_eq_true rfl, Nat.le_of_ble_eq_true rfl⟩), hts _ q_st_X4_outside⟩ (xpS hE hS) rfl rfl hl.1 rfl (lv_room (Nat.le_of_ble_eq_true rfl)) dX4_isNoMachine_11 ⟨Nat.le_of_ble_eq_true rfl, Nat.le_of_ble_eq_true rfl⟩) ?_
  exact W.zret (v := (ouI v (nI 0) ((nI (N 0)) - (nI 1)))) (ty := .boolean) hx hb hr (ou_nar _ _ _) (fun t ht _ => ⟨rfl, ht⟩) (fun q hq => absurd hq List.not_mem_nil) dX4_isNoMachine_14
set_option maxHeartbeats 4000000 in
set_option maxRecDepth 100000 in
/-- isNoPlace(v) -/
theorem c_X4_isNoPlace (l : Launch) (D : va_G) (cA : Nat → ClassId) (e0 : Nat) (A : Nat → Prop) (H0 : Heap) (ad : Nat → Nat → Nat) (g : Nat → Nat → Int32) (tt : Nat → Int64) (N : Nat → Nat) (hX : xW D cA ad g tt N H0) (v : Int32) : Met l yX4_isNoPlace w_X4_isNoPlace ({ frames := 2, cells := 0, slots := 0, locals := 43 } : Room) (xPc D cA e0 A H0 [.ref (ad 0 0), .int (v)]) (xR (some (.int (if v = -1 ∨ ouI v (nI 0) (nI (N 0) - nI 1) = 0 then nI 0 else nI 1)))) 0 0 (xNo) := by
  refine Met.ofW (cc := cX4_isNoPlace) (maxL := 2) (ret := (some .boolean)) (by decide) rfl ?_
  intro p e s m args below meth c s₁ B hml hv
  obtain ⟨rfl, hH, hE⟩ := hv
  subst hH
  have hx := B.exec
  have hb := B.bytes
  have hr := B.returns
  have hts := hE.1.all ([.ref (ad 0 0), .int (v)] : List Value).toArray
  have hown : s.vm.findClass RX4 = some m.cls := findClass_of_methodNamed B.named
  have hlocks := B.notSynchronized
  have hK := hE.2.1
  have hS : va_S A s.heap s.heap [] := va_S.rf
  have hl := lv_entry ([.ref (ad 0 0), .int (v)]) (n := 2) (Nat.le_of_ble_eq_true rfl)
  rw [lg_entry_eq]
  generalize (lg_sl ([.ref (ad 0 0), .int (v)]) ++ List.replicate (2 - (lg_sl ([.ref (ad 0 0), .int (v)])).length) Slot.unset).toArray = ls at hl ⊢
  have hl : lv_has ls 2 [(0, .ref (ad 0 0)), (1, .int (v))] := hl
  refine lv_iload_n hx hb dX4_isNoPlace_0 rfl (lv_at hl 1 rfl) ?_
  refine lv_iconst (v := (-1)) hx hb dX4_isNoPlace_1 (by decide) ?_
  refine lv_icmp_eq (tgt := 17) hx hb dX4_isNoPlace_2 (by decide) (fun c2 => ?_) (fun c2 => ?_)
  · have hr9 : (if v = -1 ∨ ouI v (nI 0) (nI (N 0) - nI 1) = 0 then nI 0 else nI 1) = nI 0 := if_pos (Or.inl c2)
    refine lv_iconst (v := nI 0) hx hb dX4_isNoPlace_17 (by decide) ?_
    have hres : nI 0 = (if v = -1 ∨ ouI v (nI 0) (nI (N 0) - nI 1) = 0 then nI 0 else nI 1) := hr9.symm
    exact W.zret (v := (nI 0)) (ty := .boolean) hx hb hr (by decide) (fun t ht _ => ⟨congrArg (fun z : Int32 => Outcome.returned (some (Value.int z))) hres, ht⟩) (fun q hq => absurd hq List.not_mem_nil) dX4_isNoPlace_18
  · refine lv_aload_n hx hb dX4_isNoPlace_5 rfl (lv_at hl 0 rfl) ?_
    refine lv_iload_n hx hb dX4_isNoPlace_6 rfl (lv_at hl 1 rfl) ?_
    refine xcRi (va_runV (As := [.int (v)]) (rest := []) ⟨hx, hb, hml, hown, hts⟩ (c_X4_isNoMachine l D cA e0 A s.heap ad g tt N hX v) ⟨(callB_of 1 hts gi_X4_isNoMachine rfl rfl rfl (hts _ q_ini_X4) (hts _ q_ml_X4_196) hd_X4_isNoMachine ⟨Nat.le_of_ble_eq_true rfl, Nat.le_of_ble_eq_true rfl⟩), hts _ q_im_X4_isNoMachine, hts _ q_sel_X4_X4_isNoMachine⟩ (xpV hE hS (hX.main) rfl) rfl rfl hl.1 rfl (lv_room (Nat.le_of_ble_eq_true rfl)) dX4_isNoPlace_7 ⟨Nat.le_of_ble_eq_true rfl, Nat.le_of_ble_eq_true rfl⟩) ?_
    refine lv_if_eq (tgt := 17) hx hb dX4_isNoPlace_10 (by decide) (fun c10 => ?_) (fun c10 => ?_)
    · have hr9 : (if v = -1 ∨ ouI v (nI 0) (nI (N 0) - nI 1) = 0 then nI 0 else nI 1) = nI 0 := if_pos (Or.inr c10)
      refine lv_iconst (v := nI 0) hx hb dX4_isNoPlace_17 (by decide) ?_
      have hres : nI 0 = (if v = -1 ∨ ouI v (nI 0) (nI (N 0) - nI 1) = 0 then nI 0 else nI 1) := hr9.symm
      exact W.zret (v := (nI 0)) (ty := .boolean) hx hb hr (by decide) (fun t ht _ => ⟨congrArg (fun z : Int32 => Outcome.returned (some (Value.int z))) hres, ht⟩) (fun q hq => absurd hq List.not_mem_nil) dX4_isNoPlace_18
    · have hr9 : (if v = -1 ∨ ouI v (nI 0) (nI (N 0) - nI 1) = 0 then nI 0 else nI 1) = nI 1 := if_neg (fun z => z.elim c2 c10)
      refine lv_iconst (v := nI 1) hx hb dX4_isNoPlace_13 (by decide) ?_
      refine lv_goto (tgt := 18) hx hb dX4_isNoPlace_14 (by decide) ?_
      have hres : nI 1 = (if v = -1 ∨ ouI v (nI 0) (nI (N 0) - nI 1) = 0 then nI 0 else nI 1) := hr9.symm
      exact W.zret (v := (nI 1)) (ty := .boolean) hx hb hr (by decide) (fun t ht _ => ⟨congrArg (fun z : Int32 => Outcome.returned (some (Value.int z))) hres, ht⟩) (fun q hq => absurd hq List.not_mem_nil) dX4_isNoPlace_18
set_option maxHeartbeats 4000000 in
set_option maxRecDepth 100000 in
/-- X4_machineCount -/
theorem c_X4_machineCount (l : Launch) (D : va_G) (cA : Nat → ClassId) (e0 : Nat) (A : Nat → Prop) (H0 : Heap) (ad : Nat → Nat → Nat) (g : Nat → Nat → Int32) (tt : Nat → Int64) (N : Nat → Nat) (hX : xW D cA ad g tt N H0) : Met l yX4_machineCount w_X4_machineCount ({ frames := 1, cells := 0, slots := 0, locals := 20 } : Room) (xPc D cA e0 A H0 [.ref (ad 0 0)]) (xR (some (.int (nI (N 0))))) 0 0 (xNo) := by
  refine Met.ofW (cc := cX4_machineCount) (maxL := 1) (ret := (some .int)) (by decide) rfl ?_
  intro p e s m args below meth c s₁ B hml hv
  obtain ⟨rfl, hH, hE⟩ := hv
  subst hH
  have hx := B.exec
  have hb := B.bytes
  have hr := B.returns
  have hts := hE.1.all ([.ref (ad 0 0)] : List Value).toArray
  have hown : s.vm.findClass RX4 = some m.cls := findClass_of_methodNamed B.named
  have hlocks := B.notSynchronized
  have hK := hE.2.1
  have hS : va_S A s.heap s.heap [] := va_S.rf
  have hl := lv_entry ([.ref (ad 0 0)]) (n := 1) (Nat.le_of_ble_eq_true rfl)
  rw [lg_entry_eq]
  generalize (lg_sl ([.ref (ad 0 0)]) ++ List.replicate (1 - (lg_sl ([.ref (ad 0 0)])).length) Slot.unset).toArray = ls at hl ⊢
  have hl : lv_has ls 1 [(0, .ref (ad 0 0))] := hl
  refine lv_aload_n hx hb dX4_machineCount_0 rfl (lv_at hl 0 rfl) ?_
  refine va_get (D := D) (ci := 5) (v := .ref (ad 0 1)) (C := RX4) (T := TX4) (N := 11) hx hb hts qi_X4 hown hK (xP1 (hX.main)) 0 rfl rfl 0 (by decide) (hts _ q_fl_X4_10) (fun _ h9 => h9) rfl dX4_machineCount_1 ?_
  refine xcRi (va_runV (As := []) (rest := []) ⟨hx, hb, hml, hown, hts⟩ (c_Jx4a65c_size_8abf5 l D cA e0 A s.heap (ad 0 1) (g 18 0) (ad 0 9) (nI (N 0)) (hX.ml)) ⟨(callB_of 0 hts gi_Jx4a65c_size_8abf5 rfl rfl rfl (hts _ q_ini_Jx4a65c) (hts _ q_ml_X4_48) hd_Jx4a65c_size_8abf5 ⟨Nat.le_of_ble_eq_true rfl, Nat.le_of_ble_eq_true rfl⟩), hts _ q_im_Jx4a65c_size_8abf5, hts _ q_sel_Jx4a65c_Jx4a65c_size_8abf5⟩ (xpV hE hS (hX.ml) rfl) rfl rfl hl.1 rfl (lv_room (Nat.le_of_ble_eq_true rfl)) dX4_machineCount_4 ⟨Nat.le_of_ble_eq_true rfl, Nat.le_of_ble_eq_true rfl⟩) ?_
  exact W.iret (v := (nI (N 0))) hx hb hr (fun t ht _ => ⟨rfl, ht⟩) (fun q hq => absurd hq List.not_mem_nil) dX4_machineCount_7
-- not reached: X4_planned
set_option maxHeartbeats 4000000 in
set_option maxRecDepth 100000 in
/-- today() -/
theorem c_X4_today (l : Launch) (D : va_G) (cA : Nat → ClassId) (e0 : Nat) (A : Nat → Prop) (H0 : Heap) (ad : Nat → Nat → Nat) (g : Nat → Nat → Int32) (tt : Nat → Int64) (N : Nat → Nat) (hX : xW D cA ad g tt N H0) : Met l yX4_today w_X4_today ({ frames := 0, cells := 0, slots := 0, locals := 0 } : Room) (xPc D cA e0 A H0 [.ref (ad 0 0)]) (xR (some (.int (g 13 0)))) 0 0 (xNo) := by
  refine Met.ofW (cc := cX4_today) (maxL := 1) (ret := (some .int)) (by decide) rfl ?_
  intro p e s m args below meth c s₁ B hml hv
  obtain ⟨rfl, hH, hE⟩ := hv
  subst hH
  have hx := B.exec
  have hb := B.bytes
  have hr := B.returns
  have hts := hE.1.all ([.ref (ad 0 0)] : List Value).toArray
  have hown : s.vm.findClass RX4 = some m.cls := findClass_of_methodNamed B.named
  have hlocks := B.notSynchronized
  have hK := hE.2.1
  have hS : va_S A s.heap s.heap [] := va_S.rf
  have hl := lv_entry ([.ref (ad 0 0)]) (n := 1) (Nat.le_of_ble_eq_true rfl)
  rw [lg_entry_eq]
  generalize (lg_sl ([.ref (ad 0 0)]) ++ List.replicate (1 - (lg_sl ([.ref (ad 0 0)])).length) Slot.unset).toArray = ls at hl ⊢
  have hl : lv_has ls 1 [(0, .ref (ad 0 0))] := hl
  refine lv_aload_n hx hb dX4_today_0 rfl (lv_at hl 0 rfl) ?_
  refine va_get (D := D) (ci := 5) (v := .int (g 13 0)) (C := RX4) (T := TX4) (N := 11) hx hb hts qi_X4 hown hK (xP1 (hX.main)) 0 rfl rfl 6 (by decide) (hts _ q_fl_X4_115) (fun _ h9 => h9) rfl dX4_today_1 ?_
  exact W.iret (v := (g 13 0)) hx hb hr (fun t ht _ => ⟨rfl, ht⟩) (fun q hq => absurd hq List.not_mem_nil) dX4_today_4
set_option maxHeartbeats 4000000 in
set_option maxRecDepth 100000 in
/-- machineAt(v) -/
theorem c_X4_machineAt (l : Launch) (D : va_G) (cA : Nat → ClassId) (e0 : Nat) (A : Nat → Prop) (H0 : Heap) (ad : Nat → Nat → Nat) (g : Nat → Nat → Int32) (tt : Nat → Int64) (N : Nat → Nat) (hX : xW D cA ad g tt N H0) (v : Int32) (hA : xA A e0 ad N) (hl9 : l.stackTraces = false) : vx_Met l yX4_machineAt w_X4_machineAt ({ frames := 6, cells := 1, slots := 6, locals := 100 } : Room) (xPc D cA e0 A H0 [.ref (ad 0 0), .int (v)]) (xQr (fun r h => h = H0 ∧ ∃ i, i < N 0 ∧ v = nI i ∧ r = ad 1 i) A) (xX (fun E => E = xIOB ∧ ¬ ∃ i, i < N 0 ∧ v = nI i)) 1 6 (A) := by
  refine vx_ofW (cc := cX4_machineAt) (maxL := 2) (ret := (some (.object "VendingRounds$Machine"))) (by decide) rfl ?_
  intro p e s m args below meth c s₁ B hml hxt hv
  obtain ⟨rfl, hH, hE⟩ := hv
  subst hH
  have hx := B.exec
  have hb := B.bytes
  have hr := B.returns
  have hts := hE.1.all ([.ref (ad 0 0), .int (v)] : List Value).toArray
  have hown : s.vm.findClass RX4 = some m.cls := findClass_of_methodNamed B.named
  have hlocks := B.notSynchronized
  have hK := hE.2.1
  have hS : va_S A s.heap s.heap [] := va_S.rf
  have hl := lv_entry ([.ref (ad 0 0), .int (v)]) (n := 2) (Nat.le_of_ble_eq_true rfl)
  rw [lg_entry_eq]
  generalize (lg_sl ([.ref (ad 0 0), .int (v)]) ++ List.replicate (2 - (lg_sl ([.ref (ad 0 0), .int (v)])).length) Slot.unset).toArray = ls at hl ⊢
  have hl : lv_has ls 2 [(0, .ref (ad 0 0)), (1, .int (v))] := hl
  refine lv_aload_n hx hb dX4_machineAt_0 rfl (lv_at hl 0 rfl) ?_
  refine lv_iload_n hx hb dX4_machineAt_1 rfl (lv_at hl 1 rfl) ?_
  refine xcRi (va_runV (As := [.int (v)]) (rest := []) ⟨hx, hb, hml, hown, hts⟩ (c_X4_isNoMachine l D cA e0 A s.heap ad g tt N hX v) ⟨(callB_of 1 hts gi_X4_isNoMachine rfl rfl rfl (hts _ q_ini_X4) (hts _ q_ml_X4_196) hd_X4_isNoMachine ⟨Nat.le_of_ble_eq_true rfl, Nat.le_of_ble_eq_true rfl⟩), hts _ q_im_X4_isNoMachine, hts _ q_sel_X4_X4_isNoMachine⟩ (xpV hE hS (hX.main) rfl) rfl rfl hl.1 rfl (lv_room (Nat.le_of_ble_eq_true rfl)) dX4_machineAt_2 ⟨Nat.le_of_ble_eq_true rfl, Nat.le_of_ble_eq_true rfl⟩) ?_
  refine lv_if_eq (tgt := 18) hx hb dX4_machineAt_5 (by decide) (fun c5 => ?_) (fun c5 => ?_)
  · obtain ⟨i0, hi0, rfl⟩ := (ou_m (by have := hA.n8; omega)).mp c5
    have hN2 : 0 < N 2 := by have := hA.2.2.2.2.2.1; omega
    refine lv_aload_n hx hb dX4_machineAt_18 rfl (lv_at hl 0 rfl) ?_
    refine va_get (D := D) (ci := 5) (v := .ref (ad 0 1)) (C := RX4) (T := TX4) (N := 11) hx hb hts qi_X4 hown hK (xP1 (hX.main)) 0 rfl rfl 0 (by decide) (hts _ q_fl_X4_10) (fun _ h9 => h9) rfl dX4_machineAt_19 ?_
    refine lv_iload_n hx hb dX4_machineAt_22 rfl (lv_at hl 1 rfl) ?_
    refine xcRr (va_runV (As := [.int (nI (i0))]) (rest := []) ⟨hx, hb, hml, hown, hts⟩ (c_Jx4a65c_get_915e3 l D cA e0 A s.heap (ad 0 1) (g 18 0) (ad 0 9) (N 0) (hX.ml) (N 2) (fun j => if j < N 0 then some (ad 1 j) else none) (hX.md hN2) i0 (ad 1 i0) hi0 hA.2.2.2.2.2.1 (by have := hA.2.2.2.2.2.2.1; omega) (if_pos hi0)) ⟨(callB_of 1 hts gi_Jx4a65c_get_915e3 rfl rfl rfl (hts _ q_ini_Jx4a65c) (hts _ q_ml_X4_199) hd_Jx4a65c_get_915e3 ⟨Nat.le_of_ble_eq_true rfl, Nat.le_of_ble_eq_true rfl⟩), hts _ q_im_Jx4a65c_get_915e3, hts _ q_sel_Jx4a65c_Jx4a65c_get_915e3⟩ (xpV hE hS (hX.ml) rfl) rfl rfl hl.1 rfl (lv_room (Nat.le_of_ble_eq_true rfl)) dX4_machineAt_23 ⟨Nat.le_of_ble_eq_true rfl, Nat.le_of_ble_eq_true rfl⟩) ?_
    refine va_castS hx hb hown (hts _ q_cl_X4_57) (hK.1 1 _ rfl).2 (va_recv hK (xP1 (hX.mach hi0)) (ci := 1) (q0 := 0) rfl rfl) dX4_machineAt_26 ?_
    refine vx_ret ?_
    have hpost := (⟨rfl, i0, hi0, rfl, rfl⟩ : s.heap = s.heap ∧ ∃ i, i < N 0 ∧ nI i0 = nI i ∧ ad 1 i0 = ad 1 i)
    refine W.widen (k := 1) (n := 6) (by omega) (by omega) ?_
    exact W.aret (v := .ref (ad 1 i0)) hx hb hr (Or.inl ⟨_, rfl⟩) (Or.inr ⟨_, rfl⟩) (fun t ht _ => ⟨⟨s.heap, (ad 1 i0), rfl, trivial, hpost, ht⟩, hS.F ht⟩) hS.2.2 dX4_machineAt_29
  · exact xthrow (cls := xIOB) (text := "there is no such machine") hx hb hl9 hE hS hown (by decide +kernel) q_cl_X4_73 q_ini_java_lang_IndexOutOfBoundsException xth_IOB xgd_IOB (by decide) (hl.1.trans hml.symm) dX4_machineAt_8 dX4_machineAt_11 dX4_machineAt_12 dX4_machineAt_14 dX4_machineAt_17 hxt (Nat.le_of_ble_eq_true rfl) (Nat.le_of_ble_eq_true rfl) (Nat.le_of_ble_eq_true rfl) (Nat.le_of_ble_eq_true rfl) hlocks (⟨rfl, fun z => c5 ((ou_m (by have := hA.n8; omega)).mpr z)⟩) (Nat.le_of_ble_eq_true rfl) (Nat.le_of_ble_eq_true rfl)
set_option maxHeartbeats 4000000 in
set_option maxRecDepth 100000 in
/-- slotAt(v, w) -/
theorem c_X4_slotAt (l : Launch) (D : va_G) (cA : Nat → ClassId) (e0 : Nat) (A : Nat → Prop) (H0 : Heap) (ad : Nat → Nat → Nat) (g : Nat → Nat → Int32) (tt : Nat → Int64) (N : Nat → Nat) (hX : xW D cA ad g tt N H0) (v w : Int32) (hA : xA A e0 ad N) (hl9 : l.stackTraces = false) : vx_Met l yX4_slotAt w_X4_slotAt ({ frames := 7, cells := 2, slots := 12, locals := 121 } : Room) (xPc D cA e0 A H0 [.ref (ad 0 0), .int (v), .int (w)]) (xQr (fun r h => h = H0 ∧ ∃ i j, i < N 0 ∧ j < 6 ∧ v = nI i ∧ w = nI j ∧ r = ad 3 (6 * i + j)) A) (xX (fun E => E = xIOB ∧ ¬ ∃ i j, i < N 0 ∧ j < 6 ∧ v = nI i ∧ w = nI j)) 2 12 (A) := by
  refine vx_ofW (cc := cX4_slotAt) (maxL := 4) (ret := (some (.object "VendingRounds$Slot"))) (by decide) rfl ?_
  intro p e s m args below meth c s₁ B hml hxt hv
  obtain ⟨rfl, hH, hE⟩ := hv
  subst hH
  have hx := B.exec
  have hb := B.bytes
  have hr := B.returns
  have hts := hE.1.all ([.ref (ad 0 0), .int (v), .int (w)] : List Value).toArray
  have hown : s.vm.findClass RX4 = some m.cls := findClass_of_methodNamed B.named
  have hlocks := B.notSynchronized
  have hK := hE.2.1
  have hS : va_S A s.heap s.heap [] := va_S.rf
  have hl := lv_entry ([.ref (ad 0 0), .int (v), .int (w)]) (n := 4) (Nat.le_of_ble_eq_true rfl)
  rw [lg_entry_eq]
  generalize (lg_sl ([.ref (ad 0 0), .int (v), .int (w)]) ++ List.replicate (4 - (lg_sl ([.ref (ad 0 0), .int (v), .int (w)])).length) Slot.unset).toArray = ls at hl ⊢
  have hl : lv_has ls 4 [(0, .ref (ad 0 0)), (1, .int (v)), (2, .int (w))] := hl
  refine lv_aload_n hx hb dX4_slotAt_0 rfl (lv_at hl 0 rfl) ?_
  refine lv_iload_n hx hb dX4_slotAt_1 rfl (lv_at hl 1 rfl) ?_
  refine xcXr (vx_runV (As := [.int (v)]) (rest := []) ⟨hx, hb, hml, hown, hts⟩ (c_X4_machineAt l D cA e0 A s.heap ad g tt N hX v hA hl9) ⟨(callB_of 1 hts gi_X4_machineAt rfl rfl rfl (hts _ q_ini_X4) (hts _ q_ml_X4_138) hd_X4_machineAt ⟨Nat.le_of_ble_eq_true rfl, Nat.le_of_ble_eq_true rfl⟩), hts _ q_im_X4_machineAt, hts _ q_sel_X4_X4_machineAt⟩ (xpV hE hS (hX.main) rfl) rfl rfl hl.1 rfl (lv_room (Nat.le_of_ble_eq_true rfl)) dX4_slotAt_2 ⟨Nat.le_of_ble_eq_true rfl, Nat.le_of_ble_eq_true rfl⟩) hS (fun q h => h) (fun E9 ce9 q9 H9 locs9 hPX9 hz9 hk9 hS9 hc9 hv9 hcl9 => ?_) (fun r9_1 H1 locs hP9 hz9 hk9 hS => ?_)
  · exact vx_out (fun x h => (hxt x h).elim) hlocks hc9 hv9 hcl9 (fun t ht _ => ⟨(), trivial, ⟨hPX9.1, fun ⟨i, _, h1, _, h3, _⟩ => hPX9.2 ⟨i, h1, h3⟩⟩, by rw [ht]; exact hz9, fun q hq _ => by rw [ht]; exact hk9 q hq⟩) hS9.2.2 (Nat.le_of_ble_eq_true rfl) (Nat.le_of_ble_eq_true rfl)
  obtain ⟨rfl, i0, hi0, rfl, rfl⟩ := hP9
  refine lv_astore_n (lv' := [(3, .ref (ad 1 i0)), (0, .ref (ad 0 0)), (1, .int (nI (i0))), (2, .int (w))]) hx hb dX4_slotAt_5 rfl hl (by decide) rfl (fun ls hl => ?_)
  refine lv_iload_n hx hb dX4_slotAt_6 rfl (lv_at hl 3 rfl) ?_
  refine lv_iconst (v := nI 0) hx hb dX4_slotAt_7 (by decide) ?_
  refine lv_iconst (v := nI 5) hx hb dX4_slotAt_8 (by decide) ?_
  refine xcRi (va_runS (As := [.int (w), .int (nI 0), .int (nI 5)]) (rest := []) ⟨hx, hb, hml, hown, hts⟩ (c_X4_outside l D cA e0 A s.heap w (nI 0) (nI 5)) ⟨(callB_of 3 hts gi_X4_outside rfl rfl rfl (hts _ q_ini_X4) (hts _ q_ml_X4_37) hd_X4_outside ⟨Nat.le_of_ble_eq_true rfl, Nat.le_of_ble_eq_true rfl⟩), hts _ q_st_X4_outside⟩ (xpS hE hS) rfl rfl hl.1 rfl (lv_room (Nat.le_of_ble_eq_true rfl)) dX4_slotAt_9 ⟨Nat.le_of_ble_eq_true rfl, Nat.le_of_ble_eq_true rfl⟩) ?_
  refine lv_if_eq (tgt := 25) hx hb dX4_slotAt_12 (by decide) (fun c12 => ?_) (fun c12 => ?_)
  · obtain ⟨j0, hj0, rfl⟩ := (ou_k (by omega)).mp c12
    refine lv_aload_n hx hb dX4_slotAt_25 rfl (lv_at hl 0 rfl) ?_
    refine va_get (D := D) (ci := 1) (v := .ref (ad 2 i0)) (C := RX0) (T := TX0) (N := 4) hx hb hts qi_X0 hown hK (xP1 (hX.mach hi0)) 0 rfl rfl 1 (by decide) (hts _ q_fl_X4_215) (fun _ h9 => h9) rfl dX4_slotAt_26 ?_
    refine lv_iload_n hx hb dX4_slotAt_29 rfl (lv_at hl 3 rfl) ?_
    refine va_aldq hx hb hK (xP1 (hX.row hi0)) 0 3 rfl rfl (i := nI (j0)) (vp_in_nI (n := j0) (by omega) (by omega)) dX4_slotAt_30 ?_
    refine xtopv (y := .ref (ad 3 (6 * i0 + j0))) (by rw [nI_clamp (n := j0) (by omega)] <;> rfl) ?_
    refine vx_ret ?_
    have hpost := (⟨rfl, i0, j0, hi0, by omega, rfl, rfl, rfl⟩ : s.heap = s.heap ∧ ∃ i j, i < N 0 ∧ j < 6 ∧ nI i0 = nI i ∧ nI j0 = nI j ∧ ad 3 (6 * i0 + j0) = ad 3 (6 * i + j))
    refine W.widen (k := 2) (n := 12) (by omega) (by omega) ?_
    exact W.aret (v := .ref (ad 3 (6 * i0 + j0))) hx hb hr (Or.inl ⟨_, rfl⟩) (Or.inr ⟨_, rfl⟩) (fun t ht _ => ⟨⟨s.heap, (ad 3 (6 * i0 + j0)), rfl, trivial, hpost, ht⟩, hS.F ht⟩) hS.2.2 dX4_slotAt_31
  · exact xthrow (cls := xIOB) (text := "product is not 0 to 5") hx hb hl9 hE hS hown (by decide +kernel) q_cl_X4_73 q_ini_java_lang_IndexOutOfBoundsException xth_IOB xgd_IOB (by decide) (hl.1.trans hml.symm) dX4_slotAt_15 dX4_slotAt_18 dX4_slotAt_19 dX4_slotAt_21 dX4_slotAt_24 hxt (Nat.le_of_ble_eq_true rfl) (Nat.le_of_ble_eq_true rfl) (Nat.le_of_ble_eq_true rfl) (Nat.le_of_ble_eq_true rfl) hlocks (⟨rfl, fun ⟨_, j, _, h2, _, h4⟩ => c12 ((ou_k (by omega)).mpr ⟨j, by omega, h4⟩)⟩) (Nat.le_of_ble_eq_true rfl) (Nat.le_of_ble_eq_true rfl)
set_option maxHeartbeats 4000000 in
set_option maxRecDepth 100000 in
/-- requireSet(v) -/
theorem c_X4_requireSet (l : Launch) (D : va_G) (cA : Nat → ClassId) (e0 : Nat) (A : Nat → Prop) (H0 : Heap) (ad : Nat → Nat → Nat) (g : Nat → Nat → Int32) (tt : Nat → Int64) (N : Nat → Nat) (hX : xW D cA ad g tt N H0) (v : Int32) (hA : xA A e0 ad N) (hl9 : l.stackTraces = false) : vx_Met l yX4_requireSet w_X4_requireSet ({ frames := 6, cells := 1, slots := 6, locals := 100 } : Room) (xPc D cA e0 A H0 [.ref (ad 0 0), .int (v)]) (xQv (fun h => h = H0 ∧ ∃ S, S < 2 ^ N 0 ∧ v = nI S) A) (xX (fun E => E = xIAE ∧ ¬ ∃ S, S < 2 ^ N 0 ∧ v = nI S)) 1 6 (A) := by
  refine vx_ofW (cc := cX4_requireSet) (maxL := 2) (ret := none) (by decide) rfl ?_
  intro p e s m args below meth c s₁ B hml hxt hv
  obtain ⟨rfl, hH, hE⟩ := hv
  subst hH
  have hx := B.exec
  have hb := B.bytes
  have hr := B.returns
  have hts := hE.1.all ([.ref (ad 0 0), .int (v)] : List Value).toArray
  have hown : s.vm.findClass RX4 = some m.cls := findClass_of_methodNamed B.named
  have hlocks := B.notSynchronized
  have hK := hE.2.1
  have hS : va_S A s.heap s.heap [] := va_S.rf
  have hl := lv_entry ([.ref (ad 0 0), .int (v)]) (n := 2) (Nat.le_of_ble_eq_true rfl)
  rw [lg_entry_eq]
  generalize (lg_sl ([.ref (ad 0 0), .int (v)]) ++ List.replicate (2 - (lg_sl ([.ref (ad 0 0), .int (v)])).length) Slot.unset).toArray = ls at hl ⊢
  have hl : lv_has ls 2 [(0, .ref (ad 0 0)), (1, .int (v))] := hl
  refine lv_iload_n hx hb dX4_requireSet_0 rfl (lv_at hl 1 rfl) ?_
  refine lv_aload_n hx hb dX4_requireSet_1 rfl (lv_at hl 0 rfl) ?_
  refine va_get (D := D) (ci := 5) (v := .ref (ad 0 1)) (C := RX4) (T := TX4) (N := 11) hx hb hts qi_X4 hown hK (xP1 (hX.main)) 0 rfl rfl 0 (by decide) (hts _ q_fl_X4_10) (fun _ h9 => h9) rfl dX4_requireSet_2 ?_
  refine xcRi (va_runV (As := []) (rest := [.int (v)]) ⟨hx, hb, hml, hown, hts⟩ (c_Jx4a65c_size_8abf5 l D cA e0 A s.heap (ad 0 1) (g 18 0) (ad 0 9) (nI (N 0)) (hX.ml)) ⟨(callB_of 0 hts gi_Jx4a65c_size_8abf5 rfl rfl rfl (hts _ q_ini_Jx4a65c) (hts _ q_ml_X4_48) hd_Jx4a65c_size_8abf5 ⟨Nat.le_of_ble_eq_true rfl, Nat.le_of_ble_eq_true rfl⟩), hts _ q_im_Jx4a65c_size_8abf5, hts _ q_sel_Jx4a65c_Jx4a65c_size_8abf5⟩ (xpV hE hS (hX.ml) rfl) rfl rfl hl.1 rfl (lv_room (Nat.le_of_ble_eq_true rfl)) dX4_requireSet_5 ⟨Nat.le_of_ble_eq_true rfl, Nat.le_of_ble_eq_true rfl⟩) ?_
  refine lv_iushr (v := (v.toUInt32 >>> ((nI (N 0)).toUInt32 &&& Int32.toUInt32 31)).toInt32) hx hb dX4_requireSet_8 rfl ?_
  refine lv_if_eq (tgt := 22) hx hb dX4_requireSet_9 (by decide) (fun c9 => ?_) (fun c9 => ?_)
  · refine vx_ret ?_
    have hpost := (⟨rfl, (rs_iff hA.n8).mp c9⟩ : s.heap = s.heap ∧ ∃ S, S < 2 ^ N 0 ∧ v = nI S)
    refine W.widen (k := 1) (n := 6) (by omega) (by omega) ?_
    exact W.vret hx hb hr (fun t ht _ => ⟨⟨s.heap, rfl, hpost, ht⟩, hS.F ht⟩) hS.2.2 dX4_requireSet_22
  · exact xthrow (cls := xIAE) (text := "machines contains something that is no machine") hx hb hl9 hE hS hown (by decide +kernel) q_cl_X4_41 q_ini_java_lang_IllegalArgumentException xth_IAE xgd_IAE (by decide) (hl.1.trans hml.symm) dX4_requireSet_12 dX4_requireSet_15 dX4_requireSet_16 dX4_requireSet_18 dX4_requireSet_21 hxt (Nat.le_of_ble_eq_true rfl) (Nat.le_of_ble_eq_true rfl) (Nat.le_of_ble_eq_true rfl) (Nat.le_of_ble_eq_true rfl) hlocks (⟨rfl, fun z => c9 ((rs_iff hA.n8).mpr z)⟩) (Nat.le_of_ble_eq_true rfl) (Nat.le_of_ble_eq_true rfl)
set_option maxHeartbeats 4000000 in
set_option maxRecDepth 100000 in
/-- requireLoad(v) -/
theorem c_X4_requireLoad (l : Launch) (D : va_G) (cA : Nat → ClassId) (e0 : Nat) (A : Nat → Prop) (H0 : Heap) (v : Int32) (hl9 : l.stackTraces = false) : vx_Met l yX4_requireLoad w_X4_requireLoad ({ frames := 6, cells := 1, slots := 6, locals := 100 } : Room) (xPc D cA e0 A H0 [.int (v)]) (xQv (fun h => h = H0 ∧ ∃ k, k ≤ 2000 ∧ v = nI k) A) (xX (fun E => E = xIAE ∧ ¬ ∃ k, k ≤ 2000 ∧ v = nI k)) 1 6 (A) := by
  refine vx_ofW (cc := cX4_requireLoad) (maxL := 1) (ret := none) (by decide) rfl ?_
  intro p e s m args below meth c s₁ B hml hxt hv
  obtain ⟨rfl, hH, hE⟩ := hv
  subst hH
  have hx := B.exec
  have hb := B.bytes
  have hr := B.returns
  have hts := hE.1.all ([.int (v)] : List Value).toArray
  have hown : s.vm.findClass RX4 = some m.cls := findClass_of_methodNamed B.named
  have hlocks := B.notSynchronized
  have hK := hE.2.1
  have hS : va_S A s.heap s.heap [] := va_S.rf
  have hl := lv_entry ([.int (v)]) (n := 1) (Nat.le_of_ble_eq_true rfl)
  rw [lg_entry_eq]
  generalize (lg_sl ([.int (v)]) ++ List.replicate (1 - (lg_sl ([.int (v)])).length) Slot.unset).toArray = ls at hl ⊢
  have hl : lv_has ls 1 [(0, .int (v))] := hl
  refine lv_iload_n hx hb dX4_requireLoad_0 rfl (lv_at hl 0 rfl) ?_
  refine lv_iconst (v := nI 0) hx hb dX4_requireLoad_1 (by decide) ?_
  refine lv_sipush (v := nI 2000) hx hb dX4_requireLoad_2 (by decide) ?_
  refine xcRi (va_runS (As := [.int (v), .int (nI 0), .int (nI 2000)]) (rest := []) ⟨hx, hb, hml, hown, hts⟩ (c_X4_outside l D cA e0 A s.heap v (nI 0) (nI 2000)) ⟨(callB_of 3 hts gi_X4_outside rfl rfl rfl (hts _ q_ini_X4) (hts _ q_ml_X4_37) hd_X4_outside ⟨Nat.le_of_ble_eq_true rfl, Nat.le_of_ble_eq_true rfl⟩), hts _ q_st_X4_outside⟩ (xpS hE hS) rfl rfl hl.1 rfl (lv_room (Nat.le_of_ble_eq_true rfl)) dX4_requireLoad_5 ⟨Nat.le_of_ble_eq_true rfl, Nat.le_of_ble_eq_true rfl⟩) ?_
  refine lv_if_eq (tgt := 21) hx hb dX4_requireLoad_8 (by decide) (fun c8 => ?_) (fun c8 => ?_)
  · refine vx_ret ?_
    have hpost := (⟨rfl, (ou_k (by omega)).mp c8⟩ : s.heap = s.heap ∧ ∃ k, k ≤ 2000 ∧ v = nI k)
    refine W.widen (k := 1) (n := 6) (by omega) (by omega) ?_
    exact W.vret hx hb hr (fun t ht _ => ⟨⟨s.heap, rfl, hpost, ht⟩, hS.F ht⟩) hS.2.2 dX4_requireLoad_21
  · exact xthrow (cls := xIAE) (text := "load is not 0 to 2000") hx hb hl9 hE hS hown (by decide +kernel) q_cl_X4_41 q_ini_java_lang_IllegalArgumentException xth_IAE xgd_IAE (by decide) (hl.1.trans hml.symm) dX4_requireLoad_11 dX4_requireLoad_14 dX4_requireLoad_15 dX4_requireLoad_17 dX4_requireLoad_20 hxt (Nat.le_of_ble_eq_true rfl) (Nat.le_of_ble_eq_true rfl) (Nat.le_of_ble_eq_true rfl) (Nat.le_of_ble_eq_true rfl) hlocks (⟨rfl, fun z => c8 ((ou_k (by omega)).mpr z)⟩) (Nat.le_of_ble_eq_true rfl) (Nat.le_of_ble_eq_true rfl)
