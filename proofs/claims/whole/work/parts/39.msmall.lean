/-! The model: small methods (by p39.py) -/
def inI (v lo hi : Int32) : Int32 := if ouI v lo hi = 0 then nI 1 else nI 0
theorem in_0 {v lo hi : Int32} : inI v lo hi = 0 ↔ ¬ ouI v lo hi = 0 := by
  unfold inI
  by_cases h : ouI v lo hi = 0
  · rw [if_pos h]
    exact ⟨fun z => absurd z (by decide), fun z => absurd h z⟩
  · rw [if_neg h]
    exact ⟨fun _ => h, fun _ => rfl⟩
theorem in_nar (v lo hi : Int32) : narrow .boolean (.int (inI v lo hi)) = .int (inI v lo hi) := by
  unfold inI
  by_cases h : ouI v lo hi = 0
  · rw [if_pos h]; decide
  · rw [if_neg h]; decide
theorem in_no1 {v lo hi : Int32} (h : v < lo) : inI v lo hi = nI 0 := if_neg (fun z => by
  rw [ou_iff] at z
  rw [i_lt] at h
  omega)
theorem in_no2 {v lo hi : Int32} (h : v > hi) : inI v lo hi = nI 0 := if_neg (fun z => by
  rw [ou_iff] at z
  have h : hi < v := h
  rw [i_lt] at h
  omega)
theorem in_yes {v lo hi : Int32} (h : ¬ v < lo) (h' : ¬ v > hi) : inI v lo hi = nI 1 := if_pos (by
  rw [ou_iff]
  have h' : ¬ hi < v := h'
  rw [i_lt] at h h'
  omega)
theorem bt_nar (S m : Nat) : narrow .boolean (.int (if S.testBit m then nI 1 else nI 0)) = .int (if S.testBit m then nI 1 else nI 0) := by
  cases S.testBit m <;> decide
/-- whether both are 0 to what they may be -/
def isS (n : Nat) (v w : Int32) : Int32 := if ouI v (nI 0) (nI n - nI 1) = 0 ∧ ouI w (nI 0) (nI 5) = 0 then nI 1 else nI 0
theorem p_p1 : ∀ n, n < 9 → nI (2 ^ n) - nI 1 = nI (2 ^ n - 1) := by decide +kernel
theorem sum_c {f f' : Nat → Int32} {b : Int32} (h : ∀ j, f j = f' j) : ∀ k, sumFrom b f k = sumFrom b f' k
  | 0 => rfl
  | k + 1 => by
    show sumFrom b f k + f k = sumFrom b f' k + f' k
    rw [sum_c h k, h k]
set_option maxHeartbeats 4000000 in
set_option maxRecDepth 100000 in
/-- model.thrown() -/
theorem c_X5_thrown (l : Launch) (D : va_G) (cA : Nat → ClassId) (e0 : Nat) (A : Nat → Prop) (H0 : Heap) (b : Nat → Nat) (g : Nat → Nat → Int32) (tt : Nat → Int64) (n np : Nat) (hX : yW D cA b g tt n np H0) : Met l yX5_thrown w_X5_thrown ({ frames := 0, cells := 0, slots := 0, locals := 0 } : Room) (xPc D cA e0 A H0 [.ref (b 0)]) (xR (some (.int (g 20 0)))) 0 0 (xNo) := by
  refine Met.ofW (cc := cX5_thrown) (maxL := 1) (ret := (some .int)) (by decide) rfl ?_
  intro p e s m args below meth c s₁ B hml hv
  obtain ⟨rfl, hH, hE⟩ := hv
  subst hH
  have hx := B.exec
  have hb := B.bytes
  have hr := B.returns
  have hts := hE.1.all ([.ref (b 0)] : List Value).toArray
  have hown : s.vm.findClass RX5 = some m.cls := findClass_of_methodNamed B.named
  have hlocks := B.notSynchronized
  have hK := hE.2.1
  have hS : va_S A s.heap s.heap [] := va_S.rf
  have hl := lv_entry ([.ref (b 0)]) (n := 1) (Nat.le_of_ble_eq_true rfl)
  rw [lg_entry_eq]
  generalize (lg_sl ([.ref (b 0)]) ++ List.replicate (1 - (lg_sl ([.ref (b 0)])).length) Slot.unset).toArray = ls at hl ⊢
  have hl : lv_has ls 1 [(0, .ref (b 0))] := hl
  refine lv_aload_n hx hb dX5_thrown_0 rfl (lv_at hl 0 rfl) ?_
  refine va_get (D := D) (ci := 6) (v := .int (g 20 0)) (C := RX5) (T := TX5) (N := 17) hx hb hts qi_X5 hown hK (xP1 (hX.main)) 0 rfl rfl 0 (by decide) (hts _ q_fl_X5_50) (fun _ h9 => h9) rfl dX5_thrown_1 ?_
  exact W.iret (v := (g 20 0)) hx hb hr (fun t ht _ => ⟨rfl, ht⟩) (fun q hq => absurd hq List.not_mem_nil) dX5_thrown_4
set_option maxHeartbeats 4000000 in
set_option maxRecDepth 100000 in
/-- model.fail(v) -/
theorem c_X5_fail (l : Launch) (D : va_G) (cA : Nat → ClassId) (e0 : Nat) (A : Nat → Prop) (H0 : Heap) (b : Nat → Nat) (g : Nat → Nat → Int32) (tt : Nat → Int64) (n np : Nat) (hX : yW D cA b g tt n np H0) (hA : yA A b n np) (v : Int32) : Met l yX5_fail w_X5_fail ({ frames := 0, cells := 0, slots := 0, locals := 0 } : Room) (xPc D cA e0 A H0 [.ref (b 0), .int (v)]) (xQi (fun r h => r = nI 0 ∧ yW D cA b (va_up g 20 (upd (g 20) 0 v)) tt n np h) A) 0 0 (A) := by
  refine Met.ofW (cc := cX5_fail) (maxL := 2) (ret := (some .int)) (by decide) rfl ?_
  intro p e s m args below meth c s₁ B hml hv
  obtain ⟨rfl, hH, hE⟩ := hv
  subst hH
  have hx := B.exec
  have hb := B.bytes
  have hr := B.returns
  have hts := hE.1.all ([.ref (b 0), .int (v)] : List Value).toArray
  have hown : s.vm.findClass RX5 = some m.cls := findClass_of_methodNamed B.named
  have hlocks := B.notSynchronized
  have hK := hE.2.1
  have hS : va_S A s.heap s.heap [] := va_S.rf
  have hl := lv_entry ([.ref (b 0), .int (v)]) (n := 2) (Nat.le_of_ble_eq_true rfl)
  rw [lg_entry_eq]
  generalize (lg_sl ([.ref (b 0), .int (v)]) ++ List.replicate (2 - (lg_sl ([.ref (b 0), .int (v)])).length) Slot.unset).toArray = ls at hl ⊢
  have hl : lv_has ls 2 [(0, .ref (b 0)), (1, .int (v))] := hl
  refine lv_aload_n hx hb dX5_fail_0 rfl (lv_at hl 0 rfl) ?_
  refine lv_iload_n hx hb dX5_fail_1 rfl (lv_at hl 1 rfl) ?_
  refine xput (D := D) (ci := 6) (v := .int (v)) (C := RX5) (T := TX5) (N := 17) hx hb hts qi_X5 tyX5 tyX5_ok nmX5 hown hK hS (hX.main) (hA.a (show 0 < 14 by omega)) rfl 0 (by decide) (hts _ q_fl_X5_50) (fun _ h9 => h9) rfl (tyX5_ok 0 (by decide)) rfl rfl (Nat.le_of_ble_eq_true rfl) dX5_fail_2 (fun H1 locs hU hS => ?_)
  have hX1 := hX.pthr hA hU
  refine lv_iconst (v := nI 0) hx hb dX5_fail_5 (by decide) ?_
  have hpost : (fun r h => r = nI 0 ∧ yW D cA b (va_up g 20 (upd (g 20) 0 v)) tt n np h) (nI 0) H1 := by
    exact ⟨rfl, hX1⟩
  refine W.widen (k := 0) (n := 0) (by omega) (by omega) ?_
  exact W.iret (v := (nI 0)) hx hb hr (fun t ht _ => ⟨⟨(nI 0), H1, rfl, hpost, ht⟩, hS.F ht⟩) hS.2.2 dX5_fail_6
set_option maxHeartbeats 4000000 in
set_option maxRecDepth 100000 in
/-- model.isIn -/
theorem c_X5_isIn (l : Launch) (D : va_G) (cA : Nat → ClassId) (e0 : Nat) (A : Nat → Prop) (H0 : Heap) (v lo hi : Int32) : Met l yX5_isIn w_X5_isIn ({ frames := 0, cells := 0, slots := 0, locals := 0 } : Room) (xPc D cA e0 A H0 [.int (v), .int (lo), .int (hi)]) (xR (some (.int (inI v lo hi)))) 0 0 (xNo) := by
  refine Met.ofW (cc := cX5_isIn) (maxL := 3) (ret := (some .boolean)) (by decide) rfl ?_
  intro p e s m args below meth c s₁ B hml hv
  obtain ⟨rfl, hH, hE⟩ := hv
  subst hH
  have hx := B.exec
  have hb := B.bytes
  have hr := B.returns
  have hts := hE.1.all ([.int (v), .int (lo), .int (hi)] : List Value).toArray
  have hown : s.vm.findClass RX5 = some m.cls := findClass_of_methodNamed B.named
  have hlocks := B.notSynchronized
  have hK := hE.2.1
  have hS : va_S A s.heap s.heap [] := va_S.rf
  have hl := lv_entry ([.int (v), .int (lo), .int (hi)]) (n := 3) (Nat.le_of_ble_eq_true rfl)
  rw [lg_entry_eq]
  generalize (lg_sl ([.int (v), .int (lo), .int (hi)]) ++ List.replicate (3 - (lg_sl ([.int (v), .int (lo), .int (hi)])).length) Slot.unset).toArray = ls at hl ⊢
  have hl : lv_has ls 3 [(0, .int (v)), (1, .int (lo)), (2, .int (hi))] := hl
  refine lv_iload_n hx hb dX5_isIn_0 rfl (lv_at hl 0 rfl) ?_
  refine lv_iload_n hx hb dX5_isIn_1 rfl (lv_at hl 1 rfl) ?_
  refine lv_icmp_lt (tgt := 14) hx hb dX5_isIn_2 (by decide) (fun c2 => ?_) (fun c2 => ?_)
  · refine lv_iconst (v := nI 0) hx hb dX5_isIn_14 (by decide) ?_
    rw [show inI v lo hi = nI 0 from in_no1 c2]
    exact W.zret (v := (nI 0)) (ty := .boolean) hx hb hr (by decide) (fun t ht _ => ⟨rfl, ht⟩) (fun q hq => absurd hq List.not_mem_nil) dX5_isIn_15
  · refine lv_iload_n hx hb dX5_isIn_5 rfl (lv_at hl 0 rfl) ?_
    refine lv_iload_n hx hb dX5_isIn_6 rfl (lv_at hl 2 rfl) ?_
    refine lv_icmp_gt (tgt := 14) hx hb dX5_isIn_7 (by decide) (fun c7 => ?_) (fun c7 => ?_)
    · refine lv_iconst (v := nI 0) hx hb dX5_isIn_14 (by decide) ?_
      rw [show inI v lo hi = nI 0 from in_no2 c7]
      exact W.zret (v := (nI 0)) (ty := .boolean) hx hb hr (by decide) (fun t ht _ => ⟨rfl, ht⟩) (fun q hq => absurd hq List.not_mem_nil) dX5_isIn_15
    · refine lv_iconst (v := nI 1) hx hb dX5_isIn_10 (by decide) ?_
      refine lv_goto (tgt := 15) hx hb dX5_isIn_11 (by decide) ?_
      rw [show inI v lo hi = nI 1 from in_yes c2 c7]
      exact W.zret (v := (nI 1)) (ty := .boolean) hx hb hr (by decide) (fun t ht _ => ⟨rfl, ht⟩) (fun q hq => absurd hq List.not_mem_nil) dX5_isIn_15
set_option maxHeartbeats 4000000 in
set_option maxRecDepth 100000 in
/-- model.isMachine(v) -/
theorem c_X5_isMachine (l : Launch) (D : va_G) (cA : Nat → ClassId) (e0 : Nat) (A : Nat → Prop) (H0 : Heap) (b : Nat → Nat) (g : Nat → Nat → Int32) (tt : Nat → Int64) (n np : Nat) (hX : yW D cA b g tt n np H0) (v : Int32) : Met l yX5_isMachine w_X5_isMachine ({ frames := 1, cells := 0, slots := 0, locals := 22 } : Room) (xPc D cA e0 A H0 [.ref (b 0), .int (v)]) (xR (some (.int (inI v (nI 0) (nI n - nI 1))))) 0 0 (xNo) := by
  refine Met.ofW (cc := cX5_isMachine) (maxL := 2) (ret := (some .boolean)) (by decide) rfl ?_
  intro p e s m args below meth c s₁ B hml hv
  obtain ⟨rfl, hH, hE⟩ := hv
  subst hH
  have hx := B.exec
  have hb := B.bytes
  have hr := B.returns
  have hts := hE.1.all ([.ref (b 0), .int (v)] : List Value).toArray
  have hown : s.vm.findClass RX5 = some m.cls := findClass_of_methodNamed B.named
  have hlocks := B.notSynchronized
  have hK := hE.2.1
  have hS : va_S A s.heap s.heap [] := va_S.rf
  have hl := lv_entry ([.ref (b 0), .int (v)]) (n := 2) (Nat.le_of_ble_eq_true rfl)
  rw [lg_entry_eq]
  generalize (lg_sl ([.ref (b 0), .int (v)]) ++ List.replicate (2 - (lg_sl ([.ref (b 0), .int (v)])).length) Slot.unset).toArray = ls at hl ⊢
  have hl : lv_has ls 2 [(0, .ref (b 0)), (1, .int (v))] := hl
  refine lv_iload_n hx hb dX5_isMachine_0 rfl (lv_at hl 1 rfl) ?_
  refine lv_iconst (v := nI 0) hx hb dX5_isMachine_1 (by decide) ?_
  refine lv_aload_n hx hb dX5_isMachine_2 rfl (lv_at hl 0 rfl) ?_
  refine va_get (D := D) (ci := 6) (v := .int (nI (n))) (C := RX5) (T := TX5) (N := 17) hx hb hts qi_X5 hown hK (xP1 (hX.main)) 0 rfl rfl 2 (by decide) (hts _ q_fl_X5_54) (fun _ h9 => h9) rfl dX5_isMachine_3 ?_
  refine lv_iconst (v := nI 1) hx hb dX5_isMachine_6 (by decide) ?_
  refine lv_isub hx hb dX5_isMachine_7 ?_
  refine xcRi (va_runS (As := [.int (v), .int (nI 0), .int ((nI (n)) - (nI 1))]) (rest := []) ⟨hx, hb, hml, hown, hts⟩ (c_X5_isIn l D cA e0 A s.heap v (nI 0) ((nI (n)) - (nI 1))) ⟨(callB_of 3 hts gi_X5_isIn rfl rfl rfl (hts _ q_ini_X5) (hts _ q_ml_X5_57) hd_X5_isIn ⟨Nat.le_of_ble_eq_true rfl, Nat.le_of_ble_eq_true rfl⟩), hts _ q_st_X5_isIn⟩ (xpS hE hS) rfl rfl hl.1 rfl (lv_room (Nat.le_of_ble_eq_true rfl)) dX5_isMachine_8 ⟨Nat.le_of_ble_eq_true rfl, Nat.le_of_ble_eq_true rfl⟩) ?_
  exact W.zret (v := (inI v (nI 0) ((nI (n)) - (nI 1)))) (ty := .boolean) hx hb hr (in_nar _ _ _) (fun t ht _ => ⟨rfl, ht⟩) (fun q hq => absurd hq List.not_mem_nil) dX5_isMachine_11
set_option maxHeartbeats 4000000 in
set_option maxRecDepth 100000 in
/-- model.isSlot(v, w) -/
theorem c_X5_isSlot (l : Launch) (D : va_G) (cA : Nat → ClassId) (e0 : Nat) (A : Nat → Prop) (H0 : Heap) (b : Nat → Nat) (g : Nat → Nat → Int32) (tt : Nat → Int64) (n np : Nat) (hX : yW D cA b g tt n np H0) (v w : Int32) : Met l yX5_isSlot w_X5_isSlot ({ frames := 2, cells := 0, slots := 0, locals := 43 } : Room) (xPc D cA e0 A H0 [.ref (b 0), .int (v), .int (w)]) (xR (some (.int (isS n v w)))) 0 0 (xNo) := by
  refine Met.ofW (cc := cX5_isSlot) (maxL := 3) (ret := (some .boolean)) (by decide) rfl ?_
  intro p e s m args below meth c s₁ B hml hv
  obtain ⟨rfl, hH, hE⟩ := hv
  subst hH
  have hx := B.exec
  have hb := B.bytes
  have hr := B.returns
  have hts := hE.1.all ([.ref (b 0), .int (v), .int (w)] : List Value).toArray
  have hown : s.vm.findClass RX5 = some m.cls := findClass_of_methodNamed B.named
  have hlocks := B.notSynchronized
  have hK := hE.2.1
  have hS : va_S A s.heap s.heap [] := va_S.rf
  have hl := lv_entry ([.ref (b 0), .int (v), .int (w)]) (n := 3) (Nat.le_of_ble_eq_true rfl)
  rw [lg_entry_eq]
  generalize (lg_sl ([.ref (b 0), .int (v), .int (w)]) ++ List.replicate (3 - (lg_sl ([.ref (b 0), .int (v), .int (w)])).length) Slot.unset).toArray = ls at hl ⊢
  have hl : lv_has ls 3 [(0, .ref (b 0)), (1, .int (v)), (2, .int (w))] := hl
  refine lv_aload_n hx hb dX5_isSlot_0 rfl (lv_at hl 0 rfl) ?_
  refine lv_iload_n hx hb dX5_isSlot_1 rfl (lv_at hl 1 rfl) ?_
  refine xcRi (va_runV (As := [.int (v)]) (rest := []) ⟨hx, hb, hml, hown, hts⟩ (c_X5_isMachine l D cA e0 A s.heap b g tt n np hX v) ⟨(callB_of 1 hts gi_X5_isMachine rfl rfl rfl (hts _ q_ini_X5) (hts _ q_ml_X5_61) hd_X5_isMachine ⟨Nat.le_of_ble_eq_true rfl, Nat.le_of_ble_eq_true rfl⟩), hts _ q_im_X5_isMachine, hts _ q_sel_X5_X5_isMachine⟩ (xpV hE hS (hX.main) rfl) rfl rfl hl.1 rfl (lv_room (Nat.le_of_ble_eq_true rfl)) dX5_isSlot_2 ⟨Nat.le_of_ble_eq_true rfl, Nat.le_of_ble_eq_true rfl⟩) ?_
  refine lv_if_eq (tgt := 21) hx hb dX5_isSlot_5 (by decide) (fun c5 => ?_) (fun c5 => ?_)
  · refine lv_iconst (v := nI 0) hx hb dX5_isSlot_21 (by decide) ?_
    rw [show isS n v w = nI 0 from if_neg (fun z => in_0.mp c5 z.1)]
    exact W.zret (v := (nI 0)) (ty := .boolean) hx hb hr (by decide) (fun t ht _ => ⟨rfl, ht⟩) (fun q hq => absurd hq List.not_mem_nil) dX5_isSlot_22
  · refine lv_iload_n hx hb dX5_isSlot_8 rfl (lv_at hl 2 rfl) ?_
    refine lv_iconst (v := nI 0) hx hb dX5_isSlot_9 (by decide) ?_
    refine lv_iconst (v := nI 5) hx hb dX5_isSlot_10 (by decide) ?_
    refine xcRi (va_runS (As := [.int (w), .int (nI 0), .int (nI 5)]) (rest := []) ⟨hx, hb, hml, hown, hts⟩ (c_X5_isIn l D cA e0 A s.heap w (nI 0) (nI 5)) ⟨(callB_of 3 hts gi_X5_isIn rfl rfl rfl (hts _ q_ini_X5) (hts _ q_ml_X5_57) hd_X5_isIn ⟨Nat.le_of_ble_eq_true rfl, Nat.le_of_ble_eq_true rfl⟩), hts _ q_st_X5_isIn⟩ (xpS hE hS) rfl rfl hl.1 rfl (lv_room (Nat.le_of_ble_eq_true rfl)) dX5_isSlot_11 ⟨Nat.le_of_ble_eq_true rfl, Nat.le_of_ble_eq_true rfl⟩) ?_
    refine lv_if_eq (tgt := 21) hx hb dX5_isSlot_14 (by decide) (fun c14 => ?_) (fun c14 => ?_)
    · refine lv_iconst (v := nI 0) hx hb dX5_isSlot_21 (by decide) ?_
      rw [show isS n v w = nI 0 from if_neg (fun z => in_0.mp c14 z.2)]
      exact W.zret (v := (nI 0)) (ty := .boolean) hx hb hr (by decide) (fun t ht _ => ⟨rfl, ht⟩) (fun q hq => absurd hq List.not_mem_nil) dX5_isSlot_22
    · refine lv_iconst (v := nI 1) hx hb dX5_isSlot_17 (by decide) ?_
      refine lv_goto (tgt := 22) hx hb dX5_isSlot_18 (by decide) ?_
      rw [show isS n v w = nI 1 from if_pos ⟨Decidable.byContradiction (fun z => c5 (in_0.mpr z)), Decidable.byContradiction (fun z => c14 (in_0.mpr z))⟩]
      exact W.zret (v := (nI 1)) (ty := .boolean) hx hb hr (by decide) (fun t ht _ => ⟨rfl, ht⟩) (fun q hq => absurd hq List.not_mem_nil) dX5_isSlot_22
set_option maxHeartbeats 4000000 in
set_option maxRecDepth 100000 in
/-- model.areMachines(v) -/
theorem c_X5_areMachines (l : Launch) (D : va_G) (cA : Nat → ClassId) (e0 : Nat) (A : Nat → Prop) (H0 : Heap) (b : Nat → Nat) (g : Nat → Nat → Int32) (tt : Nat → Int64) (n np : Nat) (hX : yW D cA b g tt n np H0) (hn8 : n ≤ 8) (v : Int32) : Met l yX5_areMachines w_X5_areMachines ({ frames := 1, cells := 0, slots := 0, locals := 22 } : Room) (xPc D cA e0 A H0 [.ref (b 0), .int (v)]) (xR (some (.int (inI v (nI 0) (nI (2 ^ n - 1)))))) 0 0 (xNo) := by
  refine Met.ofW (cc := cX5_areMachines) (maxL := 2) (ret := (some .boolean)) (by decide) rfl ?_
  intro p e s m args below meth c s₁ B hml hv
  obtain ⟨rfl, hH, hE⟩ := hv
  subst hH
  have hx := B.exec
  have hb := B.bytes
  have hr := B.returns
  have hts := hE.1.all ([.ref (b 0), .int (v)] : List Value).toArray
  have hown : s.vm.findClass RX5 = some m.cls := findClass_of_methodNamed B.named
  have hlocks := B.notSynchronized
  have hK := hE.2.1
  have hS : va_S A s.heap s.heap [] := va_S.rf
  have hl := lv_entry ([.ref (b 0), .int (v)]) (n := 2) (Nat.le_of_ble_eq_true rfl)
  rw [lg_entry_eq]
  generalize (lg_sl ([.ref (b 0), .int (v)]) ++ List.replicate (2 - (lg_sl ([.ref (b 0), .int (v)])).length) Slot.unset).toArray = ls at hl ⊢
  have hl : lv_has ls 2 [(0, .ref (b 0)), (1, .int (v))] := hl
  refine lv_iload_n hx hb dX5_areMachines_0 rfl (lv_at hl 1 rfl) ?_
  refine lv_iconst (v := nI 0) hx hb dX5_areMachines_1 (by decide) ?_
  refine lv_iconst (v := nI 1) hx hb dX5_areMachines_2 (by decide) ?_
  refine lv_aload_n hx hb dX5_areMachines_3 rfl (lv_at hl 0 rfl) ?_
  refine va_get (D := D) (ci := 6) (v := .int (nI (n))) (C := RX5) (T := TX5) (N := 17) hx hb hts qi_X5 hown hK (xP1 (hX.main)) 0 rfl rfl 2 (by decide) (hts _ q_fl_X5_54) (fun _ h9 => h9) rfl dX5_areMachines_4 ?_
  refine lv_ishl hx hb dX5_areMachines_7 ?_
  refine xtop (show ((nI 1) <<< (nI (n) &&& 31)) = nI (2 ^ n) from p_pw n (by omega)) ?_
  refine lv_iconst (v := nI 1) hx hb dX5_areMachines_8 (by decide) ?_
  refine lv_isub hx hb dX5_areMachines_9 ?_
  refine xtop (show ((nI (2 ^ n)) - (nI 1)) = nI (2 ^ n - 1) from p_p1 n (by omega)) ?_
  refine xcRi (va_runS (As := [.int (v), .int (nI 0), .int (nI (2 ^ n - 1))]) (rest := []) ⟨hx, hb, hml, hown, hts⟩ (c_X5_isIn l D cA e0 A s.heap v (nI 0) (nI (2 ^ n - 1))) ⟨(callB_of 3 hts gi_X5_isIn rfl rfl rfl (hts _ q_ini_X5) (hts _ q_ml_X5_57) hd_X5_isIn ⟨Nat.le_of_ble_eq_true rfl, Nat.le_of_ble_eq_true rfl⟩), hts _ q_st_X5_isIn⟩ (xpS hE hS) rfl rfl hl.1 rfl (lv_room (Nat.le_of_ble_eq_true rfl)) dX5_areMachines_10 ⟨Nat.le_of_ble_eq_true rfl, Nat.le_of_ble_eq_true rfl⟩) ?_
  exact W.zret (v := (inI v (nI 0) (nI (2 ^ n - 1)))) (ty := .boolean) hx hb hr (in_nar _ _ _) (fun t ht _ => ⟨rfl, ht⟩) (fun q hq => absurd hq List.not_mem_nil) dX5_areMachines_13
set_option maxHeartbeats 4000000 in
set_option maxRecDepth 100000 in
/-- model.has(S, m) -/
theorem c_X5_has (l : Launch) (D : va_G) (cA : Nat → ClassId) (e0 : Nat) (A : Nat → Prop) (H0 : Heap) (S m0 : Nat) (hSt : S < 256) (hm0 : m0 < 8) : Met l yX5_has w_X5_has ({ frames := 0, cells := 0, slots := 0, locals := 0 } : Room) (xPc D cA e0 A H0 [.int (nI (S)), .int (nI (m0))]) (xR (some (.int (if S.testBit m0 then nI 1 else nI 0)))) 0 0 (xNo) := by
  refine Met.ofW (cc := cX5_has) (maxL := 2) (ret := (some .boolean)) (by decide) rfl ?_
  intro p e s m args below meth c s₁ B hml hv
  obtain ⟨rfl, hH, hE⟩ := hv
  subst hH
  have hx := B.exec
  have hb := B.bytes
  have hr := B.returns
  have hts := hE.1.all ([.int (nI (S)), .int (nI (m0))] : List Value).toArray
  have hown : s.vm.findClass RX5 = some m.cls := findClass_of_methodNamed B.named
  have hlocks := B.notSynchronized
  have hK := hE.2.1
  have hS : va_S A s.heap s.heap [] := va_S.rf
  have hl := lv_entry ([.int (nI (S)), .int (nI (m0))]) (n := 2) (Nat.le_of_ble_eq_true rfl)
  rw [lg_entry_eq]
  generalize (lg_sl ([.int (nI (S)), .int (nI (m0))]) ++ List.replicate (2 - (lg_sl ([.int (nI (S)), .int (nI (m0))])).length) Slot.unset).toArray = ls at hl ⊢
  have hl : lv_has ls 2 [(0, .int (nI (S))), (1, .int (nI (m0)))] := hl
  refine lv_iload_n hx hb dX5_has_0 rfl (lv_at hl 0 rfl) ?_
  refine lv_iload_n hx hb dX5_has_1 rfl (lv_at hl 1 rfl) ?_
  refine lv_ishr hx hb dX5_has_2 ?_
  refine xtop (show ((nI (S)) >>> (nI (m0) &&& 31)) = nI S >>> (nI m0 &&& 31) from rfl) ?_
  refine lv_iconst (v := nI 1) hx hb dX5_has_3 (by decide) ?_
  refine lv_iand hx hb dX5_has_4 ?_
  refine xtop (show ((nI S >>> (nI m0 &&& 31)) &&& (nI 1)) = if S.testBit m0 then nI 1 else nI 0 from p_bit S hSt m0 hm0) ?_
  refine lv_iconst (v := nI 1) hx hb dX5_has_5 (by decide) ?_
  refine lv_icmp_ne (tgt := 13) hx hb dX5_has_6 (by decide) (fun c6 => ?_) (fun c6 => ?_)
  · have hq : (if S.testBit m0 then nI 1 else nI 0) = nI 0 := by
      cases hb9 : S.testBit m0
      · rfl
      · rw [hb9] at c6
        exact absurd rfl c6
    refine lv_iconst (v := nI 0) hx hb dX5_has_13 (by decide) ?_
    rw [hq]
    exact W.zret (v := (nI 0)) (ty := .boolean) hx hb hr (by decide) (fun t ht _ => ⟨rfl, ht⟩) (fun q hq => absurd hq List.not_mem_nil) dX5_has_14
  · have hq : (if S.testBit m0 then nI 1 else nI 0) = nI 1 := c6
    refine lv_iconst (v := nI 1) hx hb dX5_has_9 (by decide) ?_
    refine lv_goto (tgt := 14) hx hb dX5_has_10 (by decide) ?_
    rw [hq]
    exact W.zret (v := (nI 1)) (ty := .boolean) hx hb hr (by decide) (fun t ht _ => ⟨rfl, ht⟩) (fun q hq => absurd hq List.not_mem_nil) dX5_has_14
set_option maxHeartbeats 4000000 in
set_option maxRecDepth 100000 in
/-- model.way(p, q) -/
theorem c_X5_way (l : Launch) (D : va_G) (cA : Nat → ClassId) (e0 : Nat) (A : Nat → Prop) (H0 : Heap) (b : Nat → Nat) (g : Nat → Nat → Int32) (tt : Nat → Int64) (n np : Nat) (hX : yW D cA b g tt n np H0) (p0 q0 : Nat) (hp : p0 ≤ 8) (hq0 : q0 ≤ 8) : Met l yX5_way w_X5_way ({ frames := 0, cells := 0, slots := 0, locals := 0 } : Room) (xPc D cA e0 A H0 [.ref (b 0), .int (nI (p0)), .int (nI (q0))]) (xR (some (.int (wy g p0 q0)))) 0 0 (xNo) := by
  refine Met.ofW (cc := cX5_way) (maxL := 3) (ret := (some .int)) (by decide) rfl ?_
  intro p e s m args below meth c s₁ B hml hv
  obtain ⟨rfl, hH, hE⟩ := hv
  subst hH
  have hx := B.exec
  have hb := B.bytes
  have hr := B.returns
  have hts := hE.1.all ([.ref (b 0), .int (nI (p0)), .int (nI (q0))] : List Value).toArray
  have hown : s.vm.findClass RX5 = some m.cls := findClass_of_methodNamed B.named
  have hlocks := B.notSynchronized
  have hK := hE.2.1
  have hS : va_S A s.heap s.heap [] := va_S.rf
  have hl := lv_entry ([.ref (b 0), .int (nI (p0)), .int (nI (q0))]) (n := 3) (Nat.le_of_ble_eq_true rfl)
  rw [lg_entry_eq]
  generalize (lg_sl ([.ref (b 0), .int (nI (p0)), .int (nI (q0))]) ++ List.replicate (3 - (lg_sl ([.ref (b 0), .int (nI (p0)), .int (nI (q0))])).length) Slot.unset).toArray = ls at hl ⊢
  have hl : lv_has ls 3 [(0, .ref (b 0)), (1, .int (nI (p0))), (2, .int (nI (q0)))] := hl
  refine lv_aload_n hx hb dX5_way_0 rfl (lv_at hl 0 rfl) ?_
  refine va_get (D := D) (ci := 6) (v := .ref (b 4)) (C := RX5) (T := TX5) (N := 17) hx hb hts qi_X5 hown hK (xP1 (hX.main)) 0 rfl rfl 6 (by decide) (hts _ q_fl_X5_19) (fun _ h9 => h9) rfl dX5_way_1 ?_
  refine lv_bipush (v := nI 9) hx hb dX5_way_4 (by decide) ?_
  refine lv_iload_n hx hb dX5_way_6 rfl (lv_at hl 1 rfl) ?_
  refine lv_imul hx hb dX5_way_7 ?_
  refine xtop (show ((nI 9) * (nI (p0))) = nI (9 * p0) from pk_mul 9 p0) ?_
  refine lv_iload_n hx hb dX5_way_8 rfl (lv_at hl 2 rfl) ?_
  refine lv_iadd hx hb dX5_way_9 ?_
  refine xtop (show ((nI (9 * p0)) + (nI (q0))) = nI ((9 * p0) + q0) from nI_add (9 * p0) q0) ?_
  refine va_iald hx hb hK (xP1 (hX.t3)) 0 0 rfl rfl (i := nI ((9 * p0) + q0)) (vp_in_nI (n := (9 * p0) + q0) (by omega) (by omega)) dX5_way_10 ?_
  refine xtop (show ((fun z => g 3 (z)) (nI ((9 * p0) + q0)).toNatClampNeg) = g 3 ((9 * p0) + q0) from by rw [nI_clamp (n := (9 * p0) + q0) (by omega)]) ?_
  exact W.iret (v := (g 3 ((9 * p0) + q0))) hx hb hr (fun t ht _ => ⟨rfl, ht⟩) (fun q hq => absurd hq List.not_mem_nil) dX5_way_11
set_option maxHeartbeats 4000000 in
set_option maxRecDepth 100000 in
/-- model.restOf(S, p) -/
theorem c_X5_restOf (l : Launch) (D : va_G) (cA : Nat → ClassId) (e0 : Nat) (A : Nat → Prop) (H0 : Heap) (b : Nat → Nat) (g : Nat → Nat → Int32) (tt : Nat → Int64) (n np : Nat) (hX : yW D cA b g tt n np H0) (S p0 : Nat) (hSt : S < 256) (hp : p0 ≤ 8) : Met l yX5_restOf w_X5_restOf ({ frames := 0, cells := 0, slots := 0, locals := 0 } : Room) (xPc D cA e0 A H0 [.ref (b 0), .int (nI (S)), .int (nI (p0))]) (xR (some (.int (g 22 (9 * S + p0))))) 0 0 (xNo) := by
  refine Met.ofW (cc := cX5_restOf) (maxL := 3) (ret := (some .int)) (by decide) rfl ?_
  intro p e s m args below meth c s₁ B hml hv
  obtain ⟨rfl, hH, hE⟩ := hv
  subst hH
  have hx := B.exec
  have hb := B.bytes
  have hr := B.returns
  have hts := hE.1.all ([.ref (b 0), .int (nI (S)), .int (nI (p0))] : List Value).toArray
  have hown : s.vm.findClass RX5 = some m.cls := findClass_of_methodNamed B.named
  have hlocks := B.notSynchronized
  have hK := hE.2.1
  have hS : va_S A s.heap s.heap [] := va_S.rf
  have hl := lv_entry ([.ref (b 0), .int (nI (S)), .int (nI (p0))]) (n := 3) (Nat.le_of_ble_eq_true rfl)
  rw [lg_entry_eq]
  generalize (lg_sl ([.ref (b 0), .int (nI (S)), .int (nI (p0))]) ++ List.replicate (3 - (lg_sl ([.ref (b 0), .int (nI (S)), .int (nI (p0))])).length) Slot.unset).toArray = ls at hl ⊢
  have hl : lv_has ls 3 [(0, .ref (b 0)), (1, .int (nI (S))), (2, .int (nI (p0)))] := hl
  refine lv_aload_n hx hb dX5_restOf_0 rfl (lv_at hl 0 rfl) ?_
  refine va_get (D := D) (ci := 6) (v := .ref (b 13)) (C := RX5) (T := TX5) (N := 17) hx hb hts qi_X5 hown hK (xP1 (hX.main)) 0 rfl rfl 16 (by decide) (hts _ q_fl_X5_47) (fun _ h9 => h9) rfl dX5_restOf_1 ?_
  refine lv_bipush (v := nI 9) hx hb dX5_restOf_4 (by decide) ?_
  refine lv_iload_n hx hb dX5_restOf_6 rfl (lv_at hl 1 rfl) ?_
  refine lv_imul hx hb dX5_restOf_7 ?_
  refine xtop (show ((nI 9) * (nI (S))) = nI (9 * S) from pk_mul 9 S) ?_
  refine lv_iload_n hx hb dX5_restOf_8 rfl (lv_at hl 2 rfl) ?_
  refine lv_iadd hx hb dX5_restOf_9 ?_
  refine xtop (show ((nI (9 * S)) + (nI (p0))) = nI ((9 * S) + p0) from nI_add (9 * S) p0) ?_
  refine va_iald hx hb hK (xP1 (hX.t22)) 0 0 rfl rfl (i := nI ((9 * S) + p0)) (vp_in_nI (n := (9 * S) + p0) (by omega) (by omega)) dX5_restOf_10 ?_
  refine xtop (show ((fun z => g 22 (z)) (nI ((9 * S) + p0)).toNatClampNeg) = g 22 ((9 * S) + p0) from by rw [nI_clamp (n := (9 * S) + p0) (by omega)]) ?_
  exact W.iret (v := (g 22 ((9 * S) + p0))) hx hb hr (fun t ht _ => ⟨rfl, ht⟩) (fun q hq => absurd hq List.not_mem_nil) dX5_restOf_11
set_option maxHeartbeats 4000000 in
set_option maxRecDepth 100000 in
/-- model.slotOf(k, w) -/
theorem c_X5_slotOf (l : Launch) (D : va_G) (cA : Nat → ClassId) (e0 : Nat) (A : Nat → Prop) (H0 : Heap) (b : Nat → Nat) (g : Nat → Nat → Int32) (tt : Nat → Int64) (n np : Nat) (hX : yW D cA b g tt n np H0) (k w : Nat) (hk : k < 48) (hw : w < 6) : Met l yX5_slotOf w_X5_slotOf ({ frames := 0, cells := 0, slots := 0, locals := 0 } : Room) (xPc D cA e0 A H0 [.ref (b 0), .int (nI (k)), .int (nI (w))]) (xR (some (.int (g (4 + w) k)))) 0 0 (xNo) := by
  refine Met.ofW (cc := cX5_slotOf) (maxL := 3) (ret := (some .int)) (by decide) rfl ?_
  intro p e s m args below meth c s₁ B hml hv
  obtain ⟨rfl, hH, hE⟩ := hv
  subst hH
  have hx := B.exec
  have hb := B.bytes
  have hr := B.returns
  have hts := hE.1.all ([.ref (b 0), .int (nI (k)), .int (nI (w))] : List Value).toArray
  have hown : s.vm.findClass RX5 = some m.cls := findClass_of_methodNamed B.named
  have hlocks := B.notSynchronized
  have hK := hE.2.1
  have hS : va_S A s.heap s.heap [] := va_S.rf
  have hl := lv_entry ([.ref (b 0), .int (nI (k)), .int (nI (w))]) (n := 3) (Nat.le_of_ble_eq_true rfl)
  rw [lg_entry_eq]
  generalize (lg_sl ([.ref (b 0), .int (nI (k)), .int (nI (w))]) ++ List.replicate (3 - (lg_sl ([.ref (b 0), .int (nI (k)), .int (nI (w))])).length) Slot.unset).toArray = ls at hl ⊢
  have hl : lv_has ls 3 [(0, .ref (b 0)), (1, .int (nI (k))), (2, .int (nI (w)))] := hl
  refine lv_iload_n hx hb dX5_slotOf_0 rfl (lv_at hl 2 rfl) ?_
  by_cases hw0 : w = 0
  · subst hw0
    refine lv_tableIn (tgt := 36) (off := 35) hx hb dX5_slotOf_1 (by decide) (by decide) (by decide) (by decide) ?_
    refine lv_aload_n hx hb dX5_slotOf_36 rfl (lv_at hl 0 rfl) ?_
    refine va_get (D := D) (ci := 6) (v := .ref (b 5)) (C := RX5) (T := TX5) (N := 17) hx hb hts qi_X5 hown hK (xP1 (hX.main)) 0 rfl rfl 7 (by decide) (hts _ q_fl_X5_22) (fun _ h9 => h9) rfl dX5_slotOf_37 ?_
    refine lv_iload_n hx hb dX5_slotOf_40 rfl (lv_at hl 1 rfl) ?_
    refine va_iald hx hb hK (xP1 (hX.t4)) 0 0 rfl rfl (i := nI (k)) (vp_in_nI (n := k) (by omega) (by omega)) dX5_slotOf_41 ?_
    refine xtop (show ((fun z => g 4 (z)) (nI (k)).toNatClampNeg) = g 4 (k) from by rw [nI_clamp (n := k) (by omega)]) ?_
    exact W.iret (v := (g 4 (k))) hx hb hr (fun t ht _ => ⟨rfl, ht⟩) (fun q hq => absurd hq List.not_mem_nil) dX5_slotOf_42
  by_cases hw1 : w = 1
  · subst hw1
    refine lv_tableIn (tgt := 43) (off := 42) hx hb dX5_slotOf_1 (by decide) (by decide) (by decide) (by decide) ?_
    refine lv_aload_n hx hb dX5_slotOf_43 rfl (lv_at hl 0 rfl) ?_
    refine va_get (D := D) (ci := 6) (v := .ref (b 6)) (C := RX5) (T := TX5) (N := 17) hx hb hts qi_X5 hown hK (xP1 (hX.main)) 0 rfl rfl 8 (by decide) (hts _ q_fl_X5_25) (fun _ h9 => h9) rfl dX5_slotOf_44 ?_
    refine lv_iload_n hx hb dX5_slotOf_47 rfl (lv_at hl 1 rfl) ?_
    refine va_iald hx hb hK (xP1 (hX.t5)) 0 0 rfl rfl (i := nI (k)) (vp_in_nI (n := k) (by omega) (by omega)) dX5_slotOf_48 ?_
    refine xtop (show ((fun z => g 5 (z)) (nI (k)).toNatClampNeg) = g 5 (k) from by rw [nI_clamp (n := k) (by omega)]) ?_
    exact W.iret (v := (g 5 (k))) hx hb hr (fun t ht _ => ⟨rfl, ht⟩) (fun q hq => absurd hq List.not_mem_nil) dX5_slotOf_49
  by_cases hw2 : w = 2
  · subst hw2
    refine lv_tableIn (tgt := 50) (off := 49) hx hb dX5_slotOf_1 (by decide) (by decide) (by decide) (by decide) ?_
    refine lv_aload_n hx hb dX5_slotOf_50 rfl (lv_at hl 0 rfl) ?_
    refine va_get (D := D) (ci := 6) (v := .ref (b 7)) (C := RX5) (T := TX5) (N := 17) hx hb hts qi_X5 hown hK (xP1 (hX.main)) 0 rfl rfl 9 (by decide) (hts _ q_fl_X5_28) (fun _ h9 => h9) rfl dX5_slotOf_51 ?_
    refine lv_iload_n hx hb dX5_slotOf_54 rfl (lv_at hl 1 rfl) ?_
    refine va_iald hx hb hK (xP1 (hX.t6)) 0 0 rfl rfl (i := nI (k)) (vp_in_nI (n := k) (by omega) (by omega)) dX5_slotOf_55 ?_
    refine xtop (show ((fun z => g 6 (z)) (nI (k)).toNatClampNeg) = g 6 (k) from by rw [nI_clamp (n := k) (by omega)]) ?_
    exact W.iret (v := (g 6 (k))) hx hb hr (fun t ht _ => ⟨rfl, ht⟩) (fun q hq => absurd hq List.not_mem_nil) dX5_slotOf_56
  by_cases hw3 : w = 3
  · subst hw3
    refine lv_tableIn (tgt := 57) (off := 56) hx hb dX5_slotOf_1 (by decide) (by decide) (by decide) (by decide) ?_
    refine lv_aload_n hx hb dX5_slotOf_57 rfl (lv_at hl 0 rfl) ?_
    refine va_get (D := D) (ci := 6) (v := .ref (b 8)) (C := RX5) (T := TX5) (N := 17) hx hb hts qi_X5 hown hK (xP1 (hX.main)) 0 rfl rfl 10 (by decide) (hts _ q_fl_X5_31) (fun _ h9 => h9) rfl dX5_slotOf_58 ?_
    refine lv_iload_n hx hb dX5_slotOf_61 rfl (lv_at hl 1 rfl) ?_
    refine va_iald hx hb hK (xP1 (hX.t7)) 0 0 rfl rfl (i := nI (k)) (vp_in_nI (n := k) (by omega) (by omega)) dX5_slotOf_62 ?_
    refine xtop (show ((fun z => g 7 (z)) (nI (k)).toNatClampNeg) = g 7 (k) from by rw [nI_clamp (n := k) (by omega)]) ?_
    exact W.iret (v := (g 7 (k))) hx hb hr (fun t ht _ => ⟨rfl, ht⟩) (fun q hq => absurd hq List.not_mem_nil) dX5_slotOf_63
  by_cases hw4 : w = 4
  · subst hw4
    refine lv_tableIn (tgt := 64) (off := 63) hx hb dX5_slotOf_1 (by decide) (by decide) (by decide) (by decide) ?_
    refine lv_aload_n hx hb dX5_slotOf_64 rfl (lv_at hl 0 rfl) ?_
    refine va_get (D := D) (ci := 6) (v := .ref (b 9)) (C := RX5) (T := TX5) (N := 17) hx hb hts qi_X5 hown hK (xP1 (hX.main)) 0 rfl rfl 11 (by decide) (hts _ q_fl_X5_34) (fun _ h9 => h9) rfl dX5_slotOf_65 ?_
    refine lv_iload_n hx hb dX5_slotOf_68 rfl (lv_at hl 1 rfl) ?_
    refine va_iald hx hb hK (xP1 (hX.t8)) 0 0 rfl rfl (i := nI (k)) (vp_in_nI (n := k) (by omega) (by omega)) dX5_slotOf_69 ?_
    refine xtop (show ((fun z => g 8 (z)) (nI (k)).toNatClampNeg) = g 8 (k) from by rw [nI_clamp (n := k) (by omega)]) ?_
    exact W.iret (v := (g 8 (k))) hx hb hr (fun t ht _ => ⟨rfl, ht⟩) (fun q hq => absurd hq List.not_mem_nil) dX5_slotOf_70
  refine lv_tableOut (tgt := 71) hx hb dX5_slotOf_1 (Or.inr (by rw [nI_toInt (by omega)]; omega)) (by decide) ?_
  refine lv_aload_n hx hb dX5_slotOf_71 rfl (lv_at hl 0 rfl) ?_
  refine va_get (D := D) (ci := 6) (v := .ref (b 10)) (C := RX5) (T := TX5) (N := 17) hx hb hts qi_X5 hown hK (xP1 (hX.main)) 0 rfl rfl 12 (by decide) (hts _ q_fl_X5_37) (fun _ h9 => h9) rfl dX5_slotOf_72 ?_
  refine lv_iload_n hx hb dX5_slotOf_75 rfl (lv_at hl 1 rfl) ?_
  refine va_iald hx hb hK (xP1 (hX.t9)) 0 0 rfl rfl (i := nI (k)) (vp_in_nI (n := k) (by omega) (by omega)) dX5_slotOf_76 ?_
  refine xtop (show ((fun z => g 9 (z)) (nI (k)).toNatClampNeg) = g 9 (k) from by rw [nI_clamp (n := k) (by omega)]) ?_
  have hres : g 9 (k) = g (4 + w) k := by rw [show w = 5 by omega]
  exact W.iret (v := (g 9 (k))) hx hb hr (fun t ht _ => ⟨congrArg (fun z : Int32 => Outcome.returned (some (Value.int z))) hres, ht⟩) (fun q hq => absurd hq List.not_mem_nil) dX5_slotOf_77
set_option maxHeartbeats 4000000 in
set_option maxRecDepth 100000 in
/-- model.lacks(i) -/
theorem c_X5_lacks (l : Launch) (D : va_G) (cA : Nat → ClassId) (e0 : Nat) (A : Nat → Prop) (H0 : Heap) (b : Nat → Nat) (g : Nat → Nat → Int32) (tt : Nat → Int64) (n np : Nat) (hX : yW D cA b g tt n np H0) (hn8 : n ≤ 8) (i0 : Nat) (hi0 : i0 < 8) : Met l yX5_lacks w_X5_lacks ({ frames := 0, cells := 0, slots := 0, locals := 0 } : Room) (xPc D cA e0 A H0 [.ref (b 0), .int (nI (i0))]) (xR (some (.int (lackF g i0)))) 0 0 (xNo) := by
  refine Met.ofW (cc := cX5_lacks) (maxL := 4) (ret := (some .int)) (by decide) rfl ?_
  intro p e s m args below meth c s₁ B hml hv
  obtain ⟨rfl, hH, hE⟩ := hv
  subst hH
  have hx := B.exec
  have hb := B.bytes
  have hr := B.returns
  have hts := hE.1.all ([.ref (b 0), .int (nI (i0))] : List Value).toArray
  have hown : s.vm.findClass RX5 = some m.cls := findClass_of_methodNamed B.named
  have hlocks := B.notSynchronized
  have hK := hE.2.1
  have hS : va_S A s.heap s.heap [] := va_S.rf
  have hl := lv_entry ([.ref (b 0), .int (nI (i0))]) (n := 4) (Nat.le_of_ble_eq_true rfl)
  rw [lg_entry_eq]
  generalize (lg_sl ([.ref (b 0), .int (nI (i0))]) ++ List.replicate (4 - (lg_sl ([.ref (b 0), .int (nI (i0))])).length) Slot.unset).toArray = ls at hl ⊢
  have hl : lv_has ls 4 [(0, .ref (b 0)), (1, .int (nI (i0)))] := hl
  refine lv_iconst (v := nI 0) hx hb dX5_lacks_0 (by decide) ?_
  refine lv_istore_n (lv' := [(2, .int (nI 0)), (0, .ref (b 0)), (1, .int (nI (i0)))]) hx hb dX5_lacks_1 rfl hl (by decide) rfl (fun ls hl => ?_)
  refine lv_bipush (v := nI 6) hx hb dX5_lacks_2 (by decide) ?_
  refine lv_iload_n hx hb dX5_lacks_4 rfl (lv_at hl 2 rfl) ?_
  refine lv_imul hx hb dX5_lacks_5 ?_
  refine xtop (show ((nI 6) * (nI (i0))) = nI (6 * i0) from pk_mul 6 i0) ?_
  refine lv_istore_n (lv' := [(3, .int (nI (6 * i0))), (2, .int (nI 0)), (0, .ref (b 0)), (1, .int (nI (i0)))]) hx hb dX5_lacks_6 rfl hl (by decide) rfl (fun ls hl => ?_)
  have LOOP7 : ∀ (n7 : Nat) (j : Nat) (ls : Array Slot), (j ≤ 6) → (6 - j) < n7 → lv_has ls 4 [(3, .int (nI (6 * i0 + j))), (2, .int (sumFrom (nI 0) (fun j => g 4 (6 * i0 + j) - g 5 (6 * i0 + j)) j)), (0, .ref (b 0)), (1, .int (nI (i0)))] → W p l e (headSpec w_X5_lacks ({ frames := 0, cells := 0, slots := 0, locals := 0 } : Room)).room s m ([.ref (b 0), .int (nI (i0))] : List Value).toArray below meth c s.heap [] 0 0 (MQ below (xR (some (.int (lackF g i0)))) ([.ref (b 0), .int (nI (i0))] : List Value).toArray s 0 0 (xNo)) (F0 m 7 ls []) := by
    intro n7
    induction n7 with
    | zero => intro j ls hj hmeas hl; exact absurd hmeas (Nat.not_lt_zero _)
    | succ n7 ih7 =>
      intro j ls hj hmeas hl
      refine lv_iload_n hx hb dX5_lacks_7 rfl (lv_at hl 0 rfl) ?_
      refine lv_bipush (v := nI 6) hx hb dX5_lacks_8 (by decide) ?_
      refine lv_iload_n hx hb dX5_lacks_10 rfl (lv_at hl 3 rfl) ?_
      refine lv_iconst (v := nI 1) hx hb dX5_lacks_11 (by decide) ?_
      refine lv_iadd hx hb dX5_lacks_12 ?_
      refine xtop (show ((nI (i0)) + (nI 1)) = nI (i0 + 1) from nI_add i0 1) ?_
      refine lv_imul hx hb dX5_lacks_13 ?_
      refine xtop (show ((nI 6) * (nI (i0 + 1))) = nI (6 * (i0 + 1)) from pk_mul 6 (i0 + 1)) ?_
      refine lv_icmp_ge (tgt := 39) hx hb dX5_lacks_14 (by decide) (fun c14 => ?_) (fun c14 => ?_)
      · have c14 : (6 * (i0 + 1)) ≤ (6 * i0 + j) := (nI_leI (a := 6 * (i0 + 1)) (b := 6 * i0 + j) (by omega) (by omega)).mp c14
        have hj6 : j = 6 := by omega
        refine lv_iload_n hx hb dX5_lacks_39 rfl (lv_at hl 1 rfl) ?_
        have hres : sumFrom (nI 0) (fun j => g 4 (6 * i0 + j) - g 5 (6 * i0 + j)) j = lackF g i0 := by subst hj6; rfl
        exact W.iret (v := (sumFrom (nI 0) (fun j => g 4 (6 * i0 + j) - g 5 (6 * i0 + j)) j)) hx hb hr (fun t ht _ => ⟨congrArg (fun z : Int32 => Outcome.returned (some (Value.int z))) hres, ht⟩) (fun q hq => absurd hq List.not_mem_nil) dX5_lacks_40
      · have c14 : ¬ ((6 * (i0 + 1)) ≤ (6 * i0 + j)) := fun z => c14 ((nI_leI (a := 6 * (i0 + 1)) (b := 6 * i0 + j) (by omega) (by omega)).mpr z)
        refine lv_iload_n hx hb dX5_lacks_17 rfl (lv_at hl 1 rfl) ?_
        refine lv_aload_n hx hb dX5_lacks_18 rfl (lv_at hl 2 rfl) ?_
        refine va_get (D := D) (ci := 6) (v := .ref (b 5)) (C := RX5) (T := TX5) (N := 17) hx hb hts qi_X5 hown hK (xP1 (hX.main)) 0 rfl rfl 7 (by decide) (hts _ q_fl_X5_22) (fun _ h9 => h9) rfl dX5_lacks_19 ?_
        refine lv_iload_n hx hb dX5_lacks_22 rfl (lv_at hl 0 rfl) ?_
        refine va_iald hx hb hK (xP1 (hX.t4)) 0 0 rfl rfl (i := nI (6 * i0 + j)) (vp_in_nI (n := 6 * i0 + j) (by omega) (by omega)) dX5_lacks_23 ?_
        refine xtop (show ((fun z => g 4 (z)) (nI (6 * i0 + j)).toNatClampNeg) = g 4 (6 * i0 + j) from by rw [nI_clamp (n := 6 * i0 + j) (by omega)]) ?_
        refine lv_aload_n hx hb dX5_lacks_24 rfl (lv_at hl 2 rfl) ?_
        refine va_get (D := D) (ci := 6) (v := .ref (b 6)) (C := RX5) (T := TX5) (N := 17) hx hb hts qi_X5 hown hK (xP1 (hX.main)) 0 rfl rfl 8 (by decide) (hts _ q_fl_X5_25) (fun _ h9 => h9) rfl dX5_lacks_25 ?_
        refine lv_iload_n hx hb dX5_lacks_28 rfl (lv_at hl 0 rfl) ?_
        refine va_iald hx hb hK (xP1 (hX.t5)) 0 0 rfl rfl (i := nI (6 * i0 + j)) (vp_in_nI (n := 6 * i0 + j) (by omega) (by omega)) dX5_lacks_29 ?_
        refine xtop (show ((fun z => g 5 (z)) (nI (6 * i0 + j)).toNatClampNeg) = g 5 (6 * i0 + j) from by rw [nI_clamp (n := 6 * i0 + j) (by omega)]) ?_
        refine lv_isub hx hb dX5_lacks_30 ?_
        refine lv_iadd hx hb dX5_lacks_31 ?_
        refine lv_istore_n (lv' := [(2, .int ((sumFrom (nI 0) (fun j => g 4 (6 * i0 + j) - g 5 (6 * i0 + j)) j) + ((g 4 (6 * i0 + j)) - (g 5 (6 * i0 + j))))), (3, .int (nI (6 * i0 + j))), (0, .ref (b 0)), (1, .int (nI (i0)))]) hx hb dX5_lacks_32 rfl hl (by decide) rfl (fun ls hl => ?_)
        refine lv_iinc (v := nI (6 * i0 + j + 1)) (lv' := [(3, .int (nI (6 * i0 + j + 1))), (2, .int ((sumFrom (nI 0) (fun j => g 4 (6 * i0 + j) - g 5 (6 * i0 + j)) j) + ((g 4 (6 * i0 + j)) - (g 5 (6 * i0 + j))))), (0, .ref (b 0)), (1, .int (nI (i0)))]) hx hb dX5_lacks_33 hl (k := 1) rfl (nI_add (6 * i0 + j) 1) (by decide) rfl (fun ls hl => ?_)
        refine lv_goto (tgt := 7) hx hb dX5_lacks_36 (by decide) ?_
        exact ih7 (j + 1) _ (by omega) (by omega) (lv_sub hl [0, 1, 2, 3] rfl)
  exact LOOP7 _ 0 _ (by omega) (Nat.lt_succ_self _) (lv_sub hl [0, 1, 2, 3] rfl)
set_option maxHeartbeats 4000000 in
set_option maxRecDepth 100000 in
/-- model.gain(i) -/
theorem c_X5_gain (l : Launch) (D : va_G) (cA : Nat → ClassId) (e0 : Nat) (A : Nat → Prop) (H0 : Heap) (b : Nat → Nat) (g : Nat → Nat → Int32) (tt : Nat → Int64) (n np : Nat) (hX : yW D cA b g tt n np H0) (hn8 : n ≤ 8) (i0 : Nat) (hi0 : i0 < 8) : Met l yX5_gain w_X5_gain ({ frames := 0, cells := 0, slots := 0, locals := 0 } : Room) (xPc D cA e0 A H0 [.ref (b 0), .int (nI (i0))]) (xR (some (.int (gainF g i0)))) 0 0 (xNo) := by
  refine Met.ofW (cc := cX5_gain) (maxL := 4) (ret := (some .int)) (by decide) rfl ?_
  intro p e s m args below meth c s₁ B hml hv
  obtain ⟨rfl, hH, hE⟩ := hv
  subst hH
  have hx := B.exec
  have hb := B.bytes
  have hr := B.returns
  have hts := hE.1.all ([.ref (b 0), .int (nI (i0))] : List Value).toArray
  have hown : s.vm.findClass RX5 = some m.cls := findClass_of_methodNamed B.named
  have hlocks := B.notSynchronized
  have hK := hE.2.1
  have hS : va_S A s.heap s.heap [] := va_S.rf
  have hl := lv_entry ([.ref (b 0), .int (nI (i0))]) (n := 4) (Nat.le_of_ble_eq_true rfl)
  rw [lg_entry_eq]
  generalize (lg_sl ([.ref (b 0), .int (nI (i0))]) ++ List.replicate (4 - (lg_sl ([.ref (b 0), .int (nI (i0))])).length) Slot.unset).toArray = ls at hl ⊢
  have hl : lv_has ls 4 [(0, .ref (b 0)), (1, .int (nI (i0)))] := hl
  refine lv_aload_n hx hb dX5_gain_0 rfl (lv_at hl 0 rfl) ?_
  refine va_get (D := D) (ci := 6) (v := .ref (b 2)) (C := RX5) (T := TX5) (N := 17) hx hb hts qi_X5 hown hK (xP1 (hX.main)) 0 rfl rfl 4 (by decide) (hts _ q_fl_X5_13) (fun _ h9 => h9) rfl dX5_gain_1 ?_
  refine lv_iload_n hx hb dX5_gain_4 rfl (lv_at hl 1 rfl) ?_
  refine va_iald hx hb hK (xP1 (hX.t1)) 0 0 rfl rfl (i := nI (i0)) (vp_in_nI (n := i0) (by omega) (by omega)) dX5_gain_5 ?_
  refine xtop (show ((fun z => g 1 (z)) (nI (i0)).toNatClampNeg) = g 1 (i0) from by rw [nI_clamp (n := i0) (by omega)]) ?_
  refine lv_istore_n (lv' := [(2, .int (g 1 (i0))), (0, .ref (b 0)), (1, .int (nI (i0)))]) hx hb dX5_gain_6 rfl hl (by decide) rfl (fun ls hl => ?_)
  refine lv_bipush (v := nI 6) hx hb dX5_gain_7 (by decide) ?_
  refine lv_iload_n hx hb dX5_gain_9 rfl (lv_at hl 2 rfl) ?_
  refine lv_imul hx hb dX5_gain_10 ?_
  refine xtop (show ((nI 6) * (nI (i0))) = nI (6 * i0) from pk_mul 6 i0) ?_
  refine lv_istore_n (lv' := [(3, .int (nI (6 * i0))), (2, .int (g 1 (i0))), (0, .ref (b 0)), (1, .int (nI (i0)))]) hx hb dX5_gain_11 rfl hl (by decide) rfl (fun ls hl => ?_)
  have LOOP12 : ∀ (n12 : Nat) (j : Nat) (ls : Array Slot), (j ≤ 6) → (6 - j) < n12 → lv_has ls 4 [(3, .int (nI (6 * i0 + j))), (2, .int (sumFrom (g 1 i0) (fun j => (g 4 (6 * i0 + j) - g 5 (6 * i0 + j)) * g 6 (6 * i0 + j)) j)), (0, .ref (b 0)), (1, .int (nI (i0)))] → W p l e (headSpec w_X5_gain ({ frames := 0, cells := 0, slots := 0, locals := 0 } : Room)).room s m ([.ref (b 0), .int (nI (i0))] : List Value).toArray below meth c s.heap [] 0 0 (MQ below (xR (some (.int (gainF g i0)))) ([.ref (b 0), .int (nI (i0))] : List Value).toArray s 0 0 (xNo)) (F0 m 12 ls []) := by
    intro n12
    induction n12 with
    | zero => intro j ls hj hmeas hl; exact absurd hmeas (Nat.not_lt_zero _)
    | succ n12 ih12 =>
      intro j ls hj hmeas hl
      refine lv_iload_n hx hb dX5_gain_12 rfl (lv_at hl 0 rfl) ?_
      refine lv_bipush (v := nI 6) hx hb dX5_gain_13 (by decide) ?_
      refine lv_iload_n hx hb dX5_gain_15 rfl (lv_at hl 3 rfl) ?_
      refine lv_iconst (v := nI 1) hx hb dX5_gain_16 (by decide) ?_
      refine lv_iadd hx hb dX5_gain_17 ?_
      refine xtop (show ((nI (i0)) + (nI 1)) = nI (i0 + 1) from nI_add i0 1) ?_
      refine lv_imul hx hb dX5_gain_18 ?_
      refine xtop (show ((nI 6) * (nI (i0 + 1))) = nI (6 * (i0 + 1)) from pk_mul 6 (i0 + 1)) ?_
      refine lv_icmp_ge (tgt := 51) hx hb dX5_gain_19 (by decide) (fun c19 => ?_) (fun c19 => ?_)
      · have c19 : (6 * (i0 + 1)) ≤ (6 * i0 + j) := (nI_leI (a := 6 * (i0 + 1)) (b := 6 * i0 + j) (by omega) (by omega)).mp c19
        have hj6 : j = 6 := by omega
        refine lv_iload_n hx hb dX5_gain_51 rfl (lv_at hl 1 rfl) ?_
        have hres : sumFrom (g 1 i0) (fun j => (g 4 (6 * i0 + j) - g 5 (6 * i0 + j)) * g 6 (6 * i0 + j)) j = gainF g i0 := by subst hj6; exact (sum_c (fun j => Int32.mul_comm _ _) 6).symm
        exact W.iret (v := (sumFrom (g 1 i0) (fun j => (g 4 (6 * i0 + j) - g 5 (6 * i0 + j)) * g 6 (6 * i0 + j)) j)) hx hb hr (fun t ht _ => ⟨congrArg (fun z : Int32 => Outcome.returned (some (Value.int z))) hres, ht⟩) (fun q hq => absurd hq List.not_mem_nil) dX5_gain_52
      · have c19 : ¬ ((6 * (i0 + 1)) ≤ (6 * i0 + j)) := fun z => c19 ((nI_leI (a := 6 * (i0 + 1)) (b := 6 * i0 + j) (by omega) (by omega)).mpr z)
        refine lv_iload_n hx hb dX5_gain_22 rfl (lv_at hl 1 rfl) ?_
        refine lv_aload_n hx hb dX5_gain_23 rfl (lv_at hl 2 rfl) ?_
        refine va_get (D := D) (ci := 6) (v := .ref (b 5)) (C := RX5) (T := TX5) (N := 17) hx hb hts qi_X5 hown hK (xP1 (hX.main)) 0 rfl rfl 7 (by decide) (hts _ q_fl_X5_22) (fun _ h9 => h9) rfl dX5_gain_24 ?_
        refine lv_iload_n hx hb dX5_gain_27 rfl (lv_at hl 0 rfl) ?_
        refine va_iald hx hb hK (xP1 (hX.t4)) 0 0 rfl rfl (i := nI (6 * i0 + j)) (vp_in_nI (n := 6 * i0 + j) (by omega) (by omega)) dX5_gain_28 ?_
        refine xtop (show ((fun z => g 4 (z)) (nI (6 * i0 + j)).toNatClampNeg) = g 4 (6 * i0 + j) from by rw [nI_clamp (n := 6 * i0 + j) (by omega)]) ?_
        refine lv_aload_n hx hb dX5_gain_29 rfl (lv_at hl 2 rfl) ?_
        refine va_get (D := D) (ci := 6) (v := .ref (b 6)) (C := RX5) (T := TX5) (N := 17) hx hb hts qi_X5 hown hK (xP1 (hX.main)) 0 rfl rfl 8 (by decide) (hts _ q_fl_X5_25) (fun _ h9 => h9) rfl dX5_gain_30 ?_
        refine lv_iload_n hx hb dX5_gain_33 rfl (lv_at hl 0 rfl) ?_
        refine va_iald hx hb hK (xP1 (hX.t5)) 0 0 rfl rfl (i := nI (6 * i0 + j)) (vp_in_nI (n := 6 * i0 + j) (by omega) (by omega)) dX5_gain_34 ?_
        refine xtop (show ((fun z => g 5 (z)) (nI (6 * i0 + j)).toNatClampNeg) = g 5 (6 * i0 + j) from by rw [nI_clamp (n := 6 * i0 + j) (by omega)]) ?_
        refine lv_isub hx hb dX5_gain_35 ?_
        refine lv_aload_n hx hb dX5_gain_36 rfl (lv_at hl 2 rfl) ?_
        refine va_get (D := D) (ci := 6) (v := .ref (b 7)) (C := RX5) (T := TX5) (N := 17) hx hb hts qi_X5 hown hK (xP1 (hX.main)) 0 rfl rfl 9 (by decide) (hts _ q_fl_X5_28) (fun _ h9 => h9) rfl dX5_gain_37 ?_
        refine lv_iload_n hx hb dX5_gain_40 rfl (lv_at hl 0 rfl) ?_
        refine va_iald hx hb hK (xP1 (hX.t6)) 0 0 rfl rfl (i := nI (6 * i0 + j)) (vp_in_nI (n := 6 * i0 + j) (by omega) (by omega)) dX5_gain_41 ?_
        refine xtop (show ((fun z => g 6 (z)) (nI (6 * i0 + j)).toNatClampNeg) = g 6 (6 * i0 + j) from by rw [nI_clamp (n := 6 * i0 + j) (by omega)]) ?_
        refine lv_imul hx hb dX5_gain_42 ?_
        refine lv_iadd hx hb dX5_gain_43 ?_
        refine lv_istore_n (lv' := [(2, .int ((sumFrom (g 1 i0) (fun j => (g 4 (6 * i0 + j) - g 5 (6 * i0 + j)) * g 6 (6 * i0 + j)) j) + (((g 4 (6 * i0 + j)) - (g 5 (6 * i0 + j))) * (g 6 (6 * i0 + j))))), (3, .int (nI (6 * i0 + j))), (0, .ref (b 0)), (1, .int (nI (i0)))]) hx hb dX5_gain_44 rfl hl (by decide) rfl (fun ls hl => ?_)
        refine lv_iinc (v := nI (6 * i0 + j + 1)) (lv' := [(3, .int (nI (6 * i0 + j + 1))), (2, .int ((sumFrom (g 1 i0) (fun j => (g 4 (6 * i0 + j) - g 5 (6 * i0 + j)) * g 6 (6 * i0 + j)) j) + (((g 4 (6 * i0 + j)) - (g 5 (6 * i0 + j))) * (g 6 (6 * i0 + j))))), (0, .ref (b 0)), (1, .int (nI (i0)))]) hx hb dX5_gain_45 hl (k := 1) rfl (nI_add (6 * i0 + j) 1) (by decide) rfl (fun ls hl => ?_)
        refine lv_goto (tgt := 12) hx hb dX5_gain_48 (by decide) ?_
        exact ih12 (j + 1) _ (by omega) (by omega) (lv_sub hl [0, 1, 2, 3] rfl)
  exact LOOP12 _ 0 _ (by omega) (Nat.lt_succ_self _) (lv_sub hl [0, 1, 2, 3] rfl)
set_option maxHeartbeats 4000000 in
set_option maxRecDepth 100000 in
/-- model.told(i, w) -/
theorem c_X5_told (l : Launch) (D : va_G) (cA : Nat → ClassId) (e0 : Nat) (A : Nat → Prop) (H0 : Heap) (b : Nat → Nat) (g : Nat → Nat → Int32) (tt : Nat → Int64) (n np : Nat) (hX : yW D cA b g tt n np H0) (hn8 : n ≤ 8) (i0 : Nat) (hi0 : i0 < 8) (w : Nat) (hw : w < 5) : Met l yX5_told w_X5_told ({ frames := 1, cells := 0, slots := 0, locals := 23 } : Room) (xPc D cA e0 A H0 [.ref (b 0), .int (nI (i0)), .int (nI (w))]) (xR (some (.int (machF g i0 w)))) 0 0 (xNo) := by
  refine Met.ofW (cc := cX5_told) (maxL := 3) (ret := (some .int)) (by decide) rfl ?_
  intro p e s m args below meth c s₁ B hml hv
  obtain ⟨rfl, hH, hE⟩ := hv
  subst hH
  have hx := B.exec
  have hb := B.bytes
  have hr := B.returns
  have hts := hE.1.all ([.ref (b 0), .int (nI (i0)), .int (nI (w))] : List Value).toArray
  have hown : s.vm.findClass RX5 = some m.cls := findClass_of_methodNamed B.named
  have hlocks := B.notSynchronized
  have hK := hE.2.1
  have hS : va_S A s.heap s.heap [] := va_S.rf
  have hl := lv_entry ([.ref (b 0), .int (nI (i0)), .int (nI (w))]) (n := 3) (Nat.le_of_ble_eq_true rfl)
  rw [lg_entry_eq]
  generalize (lg_sl ([.ref (b 0), .int (nI (i0)), .int (nI (w))]) ++ List.replicate (3 - (lg_sl ([.ref (b 0), .int (nI (i0)), .int (nI (w))])).length) Slot.unset).toArray = ls at hl ⊢
  have hl : lv_has ls 3 [(0, .ref (b 0)), (1, .int (nI (i0))), (2, .int (nI (w)))] := hl
  refine lv_iload_n hx hb dX5_told_0 rfl (lv_at hl 2 rfl) ?_
  refine lv_if_ne (tgt := 13) hx hb dX5_told_1 (by decide) (fun c1 => ?_) (fun c1 => ?_)
  · have hw0 : ¬ w = 0 := fun z => c1 (by rw [z]; rfl)
    refine lv_iload_n hx hb dX5_told_13 rfl (lv_at hl 2 rfl) ?_
    refine lv_iconst (v := nI 1) hx hb dX5_told_14 (by decide) ?_
    refine lv_icmp_ne (tgt := 27) hx hb dX5_told_15 (by decide) (fun c15 => ?_) (fun c15 => ?_)
    · have c15 : ¬ (w = 1) := fun z => c15 ((nI_eq (a := w) (b := 1) (by omega) (by omega)).mpr z)
      refine lv_iload_n hx hb dX5_told_27 rfl (lv_at hl 2 rfl) ?_
      refine lv_iconst (v := nI 2) hx hb dX5_told_28 (by decide) ?_
      refine lv_icmp_ne (tgt := 40) hx hb dX5_told_29 (by decide) (fun c29 => ?_) (fun c29 => ?_)
      · have c29 : ¬ (w = 2) := fun z => c29 ((nI_eq (a := w) (b := 2) (by omega) (by omega)).mpr z)
        refine lv_iload_n hx hb dX5_told_40 rfl (lv_at hl 2 rfl) ?_
        refine lv_iconst (v := nI 3) hx hb dX5_told_41 (by decide) ?_
        refine lv_icmp_ne (tgt := 53) hx hb dX5_told_42 (by decide) (fun c42 => ?_) (fun c42 => ?_)
        · have c42 : ¬ (w = 3) := fun z => c42 ((nI_eq (a := w) (b := 3) (by omega) (by omega)).mpr z)
          refine lv_aload_n hx hb dX5_told_53 rfl (lv_at hl 0 rfl) ?_
          refine va_get (D := D) (ci := 6) (v := .ref (b 3)) (C := RX5) (T := TX5) (N := 17) hx hb hts qi_X5 hown hK (xP1 (hX.main)) 0 rfl rfl 5 (by decide) (hts _ q_fl_X5_16) (fun _ h9 => h9) rfl dX5_told_54 ?_
          refine lv_iload_n hx hb dX5_told_57 rfl (lv_at hl 1 rfl) ?_
          refine va_iald hx hb hK (xP1 (hX.t2)) 0 0 rfl rfl (i := nI (i0)) (vp_in_nI (n := i0) (by omega) (by omega)) dX5_told_58 ?_
          refine xtop (show ((fun z => g 2 (z)) (nI (i0)).toNatClampNeg) = g 2 (i0) from by rw [nI_clamp (n := i0) (by omega)]) ?_
          have hres : g 2 (i0) = machF g i0 w := (by rw [show w = 4 by omega, machF_4])
          exact W.iret (v := (g 2 (i0))) hx hb hr (fun t ht _ => ⟨congrArg (fun z : Int32 => Outcome.returned (some (Value.int z))) hres, ht⟩) (fun q hq => absurd hq List.not_mem_nil) dX5_told_59
        · have c42 : w = 3 := (nI_eq (a := w) (b := 3) (by omega) (by omega)).mp c42
          refine lv_aload_n hx hb dX5_told_45 rfl (lv_at hl 0 rfl) ?_
          refine lv_iload_n hx hb dX5_told_46 rfl (lv_at hl 1 rfl) ?_
          refine xcRi (va_runV (As := [.int (nI (i0))]) (rest := []) ⟨hx, hb, hml, hown, hts⟩ (c_X5_gain l D cA e0 A s.heap b g tt n np hX hn8 i0 hi0) ⟨(callB_of 1 hts gi_X5_gain rfl rfl rfl (hts _ q_ini_X5) (hts _ q_ml_X5_95) hd_X5_gain ⟨Nat.le_of_ble_eq_true rfl, Nat.le_of_ble_eq_true rfl⟩), hts _ q_im_X5_gain, hts _ q_sel_X5_X5_gain⟩ (xpV hE hS (hX.main) rfl) rfl rfl hl.1 rfl (lv_room (Nat.le_of_ble_eq_true rfl)) dX5_told_47 ⟨Nat.le_of_ble_eq_true rfl, Nat.le_of_ble_eq_true rfl⟩) ?_
          refine lv_goto (tgt := 59) hx hb dX5_told_50 (by decide) ?_
          have hres : gainF g i0 = machF g i0 w := (by rw [show w = 3 by omega, machF_3])
          exact W.iret (v := (gainF g i0)) hx hb hr (fun t ht _ => ⟨congrArg (fun z : Int32 => Outcome.returned (some (Value.int z))) hres, ht⟩) (fun q hq => absurd hq List.not_mem_nil) dX5_told_59
      · have c29 : w = 2 := (nI_eq (a := w) (b := 2) (by omega) (by omega)).mp c29
        refine lv_aload_n hx hb dX5_told_32 rfl (lv_at hl 0 rfl) ?_
        refine lv_iload_n hx hb dX5_told_33 rfl (lv_at hl 1 rfl) ?_
        refine xcRi (va_runV (As := [.int (nI (i0))]) (rest := []) ⟨hx, hb, hml, hown, hts⟩ (c_X5_lacks l D cA e0 A s.heap b g tt n np hX hn8 i0 hi0) ⟨(callB_of 1 hts gi_X5_lacks rfl rfl rfl (hts _ q_ini_X5) (hts _ q_ml_X5_92) hd_X5_lacks ⟨Nat.le_of_ble_eq_true rfl, Nat.le_of_ble_eq_true rfl⟩), hts _ q_im_X5_lacks, hts _ q_sel_X5_X5_lacks⟩ (xpV hE hS (hX.main) rfl) rfl rfl hl.1 rfl (lv_room (Nat.le_of_ble_eq_true rfl)) dX5_told_34 ⟨Nat.le_of_ble_eq_true rfl, Nat.le_of_ble_eq_true rfl⟩) ?_
        refine lv_goto (tgt := 59) hx hb dX5_told_37 (by decide) ?_
        have hres : lackF g i0 = machF g i0 w := (by rw [show w = 2 by omega, machF_2])
        exact W.iret (v := (lackF g i0)) hx hb hr (fun t ht _ => ⟨congrArg (fun z : Int32 => Outcome.returned (some (Value.int z))) hres, ht⟩) (fun q hq => absurd hq List.not_mem_nil) dX5_told_59
    · have c15 : w = 1 := (nI_eq (a := w) (b := 1) (by omega) (by omega)).mp c15
      refine lv_aload_n hx hb dX5_told_18 rfl (lv_at hl 0 rfl) ?_
      refine va_get (D := D) (ci := 6) (v := .ref (b 1)) (C := RX5) (T := TX5) (N := 17) hx hb hts qi_X5 hown hK (xP1 (hX.main)) 0 rfl rfl 3 (by decide) (hts _ q_fl_X5_9) (fun _ h9 => h9) rfl dX5_told_19 ?_
      refine lv_iload_n hx hb dX5_told_22 rfl (lv_at hl 1 rfl) ?_
      refine va_iald hx hb hK (xP1 (hX.t0)) 0 0 rfl rfl (i := nI (i0)) (vp_in_nI (n := i0) (by omega) (by omega)) dX5_told_23 ?_
      refine xtop (show ((fun z => g 0 (z)) (nI (i0)).toNatClampNeg) = g 0 (i0) from by rw [nI_clamp (n := i0) (by omega)]) ?_
      refine lv_goto (tgt := 59) hx hb dX5_told_24 (by decide) ?_
      have hres : g 0 (i0) = machF g i0 w := (by rw [show w = 1 by omega, machF_1])
      exact W.iret (v := (g 0 (i0))) hx hb hr (fun t ht _ => ⟨congrArg (fun z : Int32 => Outcome.returned (some (Value.int z))) hres, ht⟩) (fun q hq => absurd hq List.not_mem_nil) dX5_told_59
  · have hw0 : w = 0 := nI_inj (a := w) (b := 0) (by omega) (by omega) c1
    refine lv_aload_n hx hb dX5_told_4 rfl (lv_at hl 0 rfl) ?_
    refine va_get (D := D) (ci := 6) (v := .ref (b 2)) (C := RX5) (T := TX5) (N := 17) hx hb hts qi_X5 hown hK (xP1 (hX.main)) 0 rfl rfl 4 (by decide) (hts _ q_fl_X5_13) (fun _ h9 => h9) rfl dX5_told_5 ?_
    refine lv_iload_n hx hb dX5_told_8 rfl (lv_at hl 1 rfl) ?_
    refine va_iald hx hb hK (xP1 (hX.t1)) 0 0 rfl rfl (i := nI (i0)) (vp_in_nI (n := i0) (by omega) (by omega)) dX5_told_9 ?_
    refine xtop (show ((fun z => g 1 (z)) (nI (i0)).toNatClampNeg) = g 1 (i0) from by rw [nI_clamp (n := i0) (by omega)]) ?_
    refine lv_goto (tgt := 59) hx hb dX5_told_10 (by decide) ?_
    have hres : g 1 (i0) = machF g i0 w := (by rw [show w = 0 by omega, machF_0])
    exact W.iret (v := (g 1 (i0))) hx hb hr (fun t ht _ => ⟨congrArg (fun z : Int32 => Outcome.returned (some (Value.int z))) hres, ht⟩) (fun q hq => absurd hq List.not_mem_nil) dX5_told_59
