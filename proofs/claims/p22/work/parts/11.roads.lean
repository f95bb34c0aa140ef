/-! Lists read; ways read; sums over a set (by p11.py) -/
set_option maxHeartbeats 4000000 in
set_option maxRecDepth 100000 in
/-- ArrayList.size() -/
theorem c_Jx4a65c_size_8abf5 (l : Launch) (D : va_G) (cA : Nat → ClassId) (e0 : Nat) (A : Nat → Prop) (H0 : Heap) (a0 : Nat) (mc0 : Int32) (dr : Nat) (sz : Int32) (hL : va_at D vwCl (a0, .inr (0, [.int mc0, .ref dr, .int sz])) H0) : Met l yJx4a65c_size_8abf5 w_Jx4a65c_size_8abf5 ({ frames := 0, cells := 0, slots := 0, locals := 0 } : Room) (xPc D cA e0 A H0 [.ref (a0)]) (xR (some (.int sz))) 0 0 (xNo) := by
  refine Met.ofW (cc := cJx4a65c_size_8abf5) (maxL := 1) (ret := (some .int)) (by decide) rfl ?_
  intro p e s m args below meth c s₁ B hml hv
  obtain ⟨rfl, hH, hE⟩ := hv
  subst hH
  have hx := B.exec
  have hb := B.bytes
  have hr := B.returns
  have hts := hE.1.all ([.ref (a0)] : List Value).toArray
  have hown : s.vm.findClass RJx4a65c = some m.cls := findClass_of_methodNamed B.named
  have hlocks := B.notSynchronized
  have hK := hE.2.1
  have hS : va_S A s.heap s.heap [] := va_S.rf
  have hl := lv_entry ([.ref (a0)]) (n := 1) (Nat.le_of_ble_eq_true rfl)
  rw [lg_entry_eq]
  generalize (lg_sl ([.ref (a0)]) ++ List.replicate (1 - (lg_sl ([.ref (a0)])).length) Slot.unset).toArray = ls at hl ⊢
  have hl : lv_has ls 1 [(0, .ref (a0))] := hl
  refine lv_aload_n hx hb dJx4a65c_size_8abf5_0 rfl (lv_at hl 0 rfl) ?_
  refine va_get (D := D) (ci := 0) (v := .int (sz)) (C := RJx4a65c) (T := TJx4a65c) (N := 3) hx hb hts qi_Jx4a65c hown hK (xP1 hL) 0 rfl rfl 2 (by decide) (hts _ q_fl_Jx4a65c_48) (fun _ h9 => h9) rfl dJx4a65c_size_8abf5_1 ?_
  exact W.iret (v := sz) hx hb hr (fun t ht _ => ⟨rfl, ht⟩) (fun q hq => absurd hq List.not_mem_nil) dJx4a65c_size_8abf5_4
set_option maxHeartbeats 4000000 in
set_option maxRecDepth 100000 in
/-- ArrayList.elementData(i) -/
theorem c_Jx4a65c_elementData_915e3 (l : Launch) (D : va_G) (cA : Nat → ClassId) (e0 : Nat) (A : Nat → Prop) (H0 : Heap) (a0 : Nat) (mc0 : Int32) (dr : Nat) (sz : Int32) (hL : va_at D vwCl (a0, .inr (0, [.int mc0, .ref dr, .int sz])) H0) (cap : Nat) (f : Nat → Option Nat) (hF : va_at D vwCl (dr, .inl (cA 2, cap, .inr (.inr (.inr (.inr f))))) H0) (i q0 : Nat) (hi : i < cap) (hc : cap < 2 ^ 31) (hq : f i = some q0) : Met l yJx4a65c_elementData_915e3 w_Jx4a65c_elementData_915e3 ({ frames := 0, cells := 0, slots := 0, locals := 0 } : Room) (xPc D cA e0 A H0 [.ref (a0), .int (nI (i))]) (xR (some (.ref q0))) 0 0 (xNo) := by
  refine Met.ofW (cc := cJx4a65c_elementData_915e3) (maxL := 2) (ret := (some (.object "java/lang/Object"))) (by decide) rfl ?_
  intro p e s m args below meth c s₁ B hml hv
  obtain ⟨rfl, hH, hE⟩ := hv
  subst hH
  have hx := B.exec
  have hb := B.bytes
  have hr := B.returns
  have hts := hE.1.all ([.ref (a0), .int (nI (i))] : List Value).toArray
  have hown : s.vm.findClass RJx4a65c = some m.cls := findClass_of_methodNamed B.named
  have hlocks := B.notSynchronized
  have hK := hE.2.1
  have hS : va_S A s.heap s.heap [] := va_S.rf
  have hl := lv_entry ([.ref (a0), .int (nI (i))]) (n := 2) (Nat.le_of_ble_eq_true rfl)
  rw [lg_entry_eq]
  generalize (lg_sl ([.ref (a0), .int (nI (i))]) ++ List.replicate (2 - (lg_sl ([.ref (a0), .int (nI (i))])).length) Slot.unset).toArray = ls at hl ⊢
  have hl : lv_has ls 2 [(0, .ref (a0)), (1, .int (nI (i)))] := hl
  refine lv_aload_n hx hb dJx4a65c_elementData_915e3_0 rfl (lv_at hl 0 rfl) ?_
  refine va_get (D := D) (ci := 0) (v := .ref (dr)) (C := RJx4a65c) (T := TJx4a65c) (N := 3) hx hb hts qi_Jx4a65c hown hK (xP1 hL) 0 rfl rfl 1 (by decide) (hts _ q_fl_Jx4a65c_9) (fun _ h9 => h9) rfl dJx4a65c_elementData_915e3_1 ?_
  refine lv_iload_n hx hb dJx4a65c_elementData_915e3_4 rfl (lv_at hl 1 rfl) ?_
  refine va_aldq hx hb hK (xP1 hF) 0 2 rfl rfl (i := nI (i)) (vp_in_nI (n := i) (by omega) (by omega)) dJx4a65c_elementData_915e3_5 ?_
  refine xtopv (y := .ref (q0)) (by rw [nI_clamp (n := i) (by omega), hq] <;> rfl) ?_
  exact W.aret (v := .ref q0) hx hb hr (Or.inl ⟨_, rfl⟩) (Or.inr ⟨_, rfl⟩) (fun t ht _ => ⟨rfl, ht⟩) (fun q hq => absurd hq List.not_mem_nil) dJx4a65c_elementData_915e3_6
set_option maxHeartbeats 4000000 in
set_option maxRecDepth 100000 in
/-- Preconditions.checkIndex(i, n, null) in range -/
theorem c_J3_checkIndex_8e157 (l : Launch) (D : va_G) (cA : Nat → ClassId) (e0 : Nat) (A : Nat → Prop) (H0 : Heap) (i n : Nat) (hi : i < n) (hn : n < 2 ^ 31) : Met l yJ3_checkIndex_8e157 w_J3_checkIndex_8e157 ({ frames := 0, cells := 0, slots := 0, locals := 0 } : Room) (xPc D cA e0 A H0 [.int (nI (i)), .int (nI (n)), .null]) (xR (some (.int (nI i)))) 0 0 (xNo) := by
  refine Met.ofW (cc := cJ3_checkIndex_8e157) (maxL := 3) (ret := (some .int)) (by decide) rfl ?_
  intro p e s m args below meth c s₁ B hml hv
  obtain ⟨rfl, hH, hE⟩ := hv
  subst hH
  have hx := B.exec
  have hb := B.bytes
  have hr := B.returns
  have hts := hE.1.all ([.int (nI (i)), .int (nI (n)), .null] : List Value).toArray
  have hown : s.vm.findClass RJ3 = some m.cls := findClass_of_methodNamed B.named
  have hlocks := B.notSynchronized
  have hK := hE.2.1
  have hS : va_S A s.heap s.heap [] := va_S.rf
  have hl := lv_entry ([.int (nI (i)), .int (nI (n)), .null]) (n := 3) (Nat.le_of_ble_eq_true rfl)
  rw [lg_entry_eq]
  generalize (lg_sl ([.int (nI (i)), .int (nI (n)), .null]) ++ List.replicate (3 - (lg_sl ([.int (nI (i)), .int (nI (n)), .null])).length) Slot.unset).toArray = ls at hl ⊢
  have hl : lv_has ls 3 [(0, .int (nI (i))), (1, .int (nI (n))), (2, .null)] := hl
  refine lv_iload_n hx hb dJ3_checkIndex_8e157_0 rfl (lv_at hl 0 rfl) ?_
  refine lv_if_lt (tgt := 9) hx hb dJ3_checkIndex_8e157_1 (by decide) (fun hno => absurd hno (nI_pos (by omega))) (fun _ => ?_)
  refine lv_iload_n hx hb dJ3_checkIndex_8e157_4 rfl (lv_at hl 0 rfl) ?_
  refine lv_iload_n hx hb dJ3_checkIndex_8e157_5 rfl (lv_at hl 1 rfl) ?_
  refine lv_icmp_lt (tgt := 16) hx hb dJ3_checkIndex_8e157_6 (by decide) (fun _ => ?_) (fun hno => absurd (nI_lt hi (by omega)) hno)
  refine lv_iload_n hx hb dJ3_checkIndex_8e157_16 rfl (lv_at hl 0 rfl) ?_
  exact W.iret (v := (nI (i))) hx hb hr (fun t ht _ => ⟨rfl, ht⟩) (fun q hq => absurd hq List.not_mem_nil) dJ3_checkIndex_8e157_17
set_option maxHeartbeats 4000000 in
set_option maxRecDepth 100000 in
/-- Objects.checkIndex(i, n) in range -/
theorem c_J15_checkIndex_7cf53 (l : Launch) (D : va_G) (cA : Nat → ClassId) (e0 : Nat) (A : Nat → Prop) (H0 : Heap) (i n : Nat) (hi : i < n) (hn : n < 2 ^ 31) : Met l yJ15_checkIndex_7cf53 w_J15_checkIndex_7cf53 ({ frames := 1, cells := 0, slots := 0, locals := 22 } : Room) (xPc D cA e0 A H0 [.int (nI (i)), .int (nI (n))]) (xR (some (.int (nI i)))) 0 0 (xNo) := by
  refine Met.ofW (cc := cJ15_checkIndex_7cf53) (maxL := 2) (ret := (some .int)) (by decide) rfl ?_
  intro p e s m args below meth c s₁ B hml hv
  obtain ⟨rfl, hH, hE⟩ := hv
  subst hH
  have hx := B.exec
  have hb := B.bytes
  have hr := B.returns
  have hts := hE.1.all ([.int (nI (i)), .int (nI (n))] : List Value).toArray
  have hown : s.vm.findClass RJ15 = some m.cls := findClass_of_methodNamed B.named
  have hlocks := B.notSynchronized
  have hK := hE.2.1
  have hS : va_S A s.heap s.heap [] := va_S.rf
  have hl := lv_entry ([.int (nI (i)), .int (nI (n))]) (n := 2) (Nat.le_of_ble_eq_true rfl)
  rw [lg_entry_eq]
  generalize (lg_sl ([.int (nI (i)), .int (nI (n))]) ++ List.replicate (2 - (lg_sl ([.int (nI (i)), .int (nI (n))])).length) Slot.unset).toArray = ls at hl ⊢
  have hl : lv_has ls 2 [(0, .int (nI (i))), (1, .int (nI (n)))] := hl
  refine lv_iload_n hx hb dJ15_checkIndex_7cf53_0 rfl (lv_at hl 0 rfl) ?_
  refine lv_iload_n hx hb dJ15_checkIndex_7cf53_1 rfl (lv_at hl 1 rfl) ?_
  refine lv_null hx hb dJ15_checkIndex_7cf53_2 ?_
  refine xcRi (va_runS (As := [.int (nI (i)), .int (nI (n)), .null]) (rest := []) ⟨hx, hb, hml, hown, hts⟩ (c_J3_checkIndex_8e157 l D cA e0 A s.heap i n hi hn) ⟨(callB_of 3 hts gi_J3_checkIndex_8e157 rfl rfl rfl (hts _ q_ini_J3) (hts _ q_ml_J15_105) hd_J3_checkIndex_8e157 ⟨Nat.le_of_ble_eq_true rfl, Nat.le_of_ble_eq_true rfl⟩), hts _ q_st_J3_checkIndex_8e157⟩ (xpS hE hS) rfl rfl hl.1 rfl (lv_room (Nat.le_of_ble_eq_true rfl)) dJ15_checkIndex_7cf53_3 ⟨Nat.le_of_ble_eq_true rfl, Nat.le_of_ble_eq_true rfl⟩) ?_
  exact W.iret (v := (nI (i))) hx hb hr (fun t ht _ => ⟨rfl, ht⟩) (fun q hq => absurd hq List.not_mem_nil) dJ15_checkIndex_7cf53_6
set_option maxHeartbeats 4000000 in
set_option maxRecDepth 100000 in
/-- ArrayList.get(i) -/
theorem c_Jx4a65c_get_915e3 (l : Launch) (D : va_G) (cA : Nat → ClassId) (e0 : Nat) (A : Nat → Prop) (H0 : Heap) (a0 : Nat) (mc0 : Int32) (dr : Nat) (n : Nat) (hL : va_at D vwCl (a0, .inr (0, [.int mc0, .ref dr, .int (nI n)])) H0) (cap : Nat) (f : Nat → Option Nat) (hF : va_at D vwCl (dr, .inl (cA 2, cap, .inr (.inr (.inr (.inr f))))) H0) (i q0 : Nat) (hi : i < n) (hn : n ≤ cap) (hc : cap < 2 ^ 31) (hq : f i = some q0) : Met l yJx4a65c_get_915e3 w_Jx4a65c_get_915e3 ({ frames := 2, cells := 0, slots := 0, locals := 43 } : Room) (xPc D cA e0 A H0 [.ref (a0), .int (nI (i))]) (xR (some (.ref q0))) 0 0 (xNo) := by
  refine Met.ofW (cc := cJx4a65c_get_915e3) (maxL := 2) (ret := (some (.object "java/lang/Object"))) (by decide) rfl ?_
  intro p e s m args below meth c s₁ B hml hv
  obtain ⟨rfl, hH, hE⟩ := hv
  subst hH
  have hx := B.exec
  have hb := B.bytes
  have hr := B.returns
  have hts := hE.1.all ([.ref (a0), .int (nI (i))] : List Value).toArray
  have hown : s.vm.findClass RJx4a65c = some m.cls := findClass_of_methodNamed B.named
  have hlocks := B.notSynchronized
  have hK := hE.2.1
  have hS : va_S A s.heap s.heap [] := va_S.rf
  have hl := lv_entry ([.ref (a0), .int (nI (i))]) (n := 2) (Nat.le_of_ble_eq_true rfl)
  rw [lg_entry_eq]
  generalize (lg_sl ([.ref (a0), .int (nI (i))]) ++ List.replicate (2 - (lg_sl ([.ref (a0), .int (nI (i))])).length) Slot.unset).toArray = ls at hl ⊢
  have hl : lv_has ls 2 [(0, .ref (a0)), (1, .int (nI (i)))] := hl
  refine lv_iload_n hx hb dJx4a65c_get_915e3_0 rfl (lv_at hl 1 rfl) ?_
  refine lv_aload_n hx hb dJx4a65c_get_915e3_1 rfl (lv_at hl 0 rfl) ?_
  refine va_get (D := D) (ci := 0) (v := .int (nI (n))) (C := RJx4a65c) (T := TJx4a65c) (N := 3) hx hb hts qi_Jx4a65c hown hK (xP1 hL) 0 rfl rfl 2 (by decide) (hts _ q_fl_Jx4a65c_48) (fun _ h9 => h9) rfl dJx4a65c_get_915e3_2 ?_
  refine xcRi (va_runS (As := [.int (nI (i)), .int (nI (n))]) (rest := []) ⟨hx, hb, hml, hown, hts⟩ (c_J15_checkIndex_7cf53 l D cA e0 A s.heap i n hi (by omega)) ⟨(callB_of 2 hts gi_J15_checkIndex_7cf53 rfl rfl rfl (hts _ q_ini_J15) (hts _ q_ml_Jx4a65c_118) hd_J15_checkIndex_7cf53 ⟨Nat.le_of_ble_eq_true rfl, Nat.le_of_ble_eq_true rfl⟩), hts _ q_st_J15_checkIndex_7cf53⟩ (xpS hE hS) rfl rfl hl.1 rfl (lv_room (Nat.le_of_ble_eq_true rfl)) dJx4a65c_get_915e3_5 ⟨Nat.le_of_ble_eq_true rfl, Nat.le_of_ble_eq_true rfl⟩) ?_
  refine lv_pop hx hb dJx4a65c_get_915e3_8 rfl ?_
  refine lv_aload_n hx hb dJx4a65c_get_915e3_9 rfl (lv_at hl 0 rfl) ?_
  refine lv_iload_n hx hb dJx4a65c_get_915e3_10 rfl (lv_at hl 1 rfl) ?_
  refine xcRr (va_runV (As := [.int (nI (i))]) (rest := []) ⟨hx, hb, hml, hown, hts⟩ (c_Jx4a65c_elementData_915e3 l D cA e0 A s.heap a0 mc0 dr (nI n) hL cap f hF i q0 (by omega) hc hq) ⟨(callB_of 1 hts gi_Jx4a65c_elementData_915e3 rfl rfl rfl (hts _ q_ini_Jx4a65c) (hts _ q_ml_Jx4a65c_123) hd_Jx4a65c_elementData_915e3 ⟨Nat.le_of_ble_eq_true rfl, Nat.le_of_ble_eq_true rfl⟩), hts _ q_im_Jx4a65c_elementData_915e3, hts _ q_sel_Jx4a65c_Jx4a65c_elementData_915e3⟩ (xpV hE hS hL rfl) rfl rfl hl.1 rfl (lv_room (Nat.le_of_ble_eq_true rfl)) dJx4a65c_get_915e3_11 ⟨Nat.le_of_ble_eq_true rfl, Nat.le_of_ble_eq_true rfl⟩) ?_
  exact W.aret (v := .ref q0) hx hb hr (Or.inl ⟨_, rfl⟩) (Or.inr ⟨_, rfl⟩) (fun t ht _ => ⟨rfl, ht⟩) (fun q hq => absurd hq List.not_mem_nil) dJx4a65c_get_915e3_14
set_option maxHeartbeats 4000000 in
set_option maxRecDepth 100000 in
/-- Roads.between(a, b) -/
theorem c_X2_between (l : Launch) (D : va_G) (cA : Nat → ClassId) (e0 : Nat) (A : Nat → Prop) (H0 : Heap) (ad : Nat → Nat → Nat) (g : Nat → Nat → Int32) (tt : Nat → Int64) (N : Nat → Nat) (hX : xW D cA ad g tt N H0) (a b : Int32) (pa pb : Nat) (ha : isPl a pa) (hb9 : isPl b pb) : Met l yX2_between w_X2_between ({ frames := 0, cells := 0, slots := 0, locals := 0 } : Room) (xPc D cA e0 A H0 [.ref (ad 0 3), .int (a), .int (b)]) (xR (some (.int (wy g pa pb)))) 0 0 (xNo) := by
  refine Met.ofW (cc := cX2_between) (maxL := 3) (ret := (some .int)) (by decide) rfl ?_
  intro p e s m args below meth c s₁ B hml hv
  obtain ⟨rfl, hH, hE⟩ := hv
  subst hH
  have hx := B.exec
  have hb := B.bytes
  have hr := B.returns
  have hts := hE.1.all ([.ref (ad 0 3), .int (a), .int (b)] : List Value).toArray
  have hown : s.vm.findClass RX2 = some m.cls := findClass_of_methodNamed B.named
  have hlocks := B.notSynchronized
  have hK := hE.2.1
  have hS : va_S A s.heap s.heap [] := va_S.rf
  have hl := lv_entry ([.ref (ad 0 3), .int (a), .int (b)]) (n := 3) (Nat.le_of_ble_eq_true rfl)
  rw [lg_entry_eq]
  generalize (lg_sl ([.ref (ad 0 3), .int (a), .int (b)]) ++ List.replicate (3 - (lg_sl ([.ref (ad 0 3), .int (a), .int (b)])).length) Slot.unset).toArray = ls at hl ⊢
  have hl : lv_has ls 3 [(0, .ref (ad 0 3)), (1, .int (a)), (2, .int (b))] := hl
  have ha8 := ha.1
  have hb8 := hb9.1
  refine lv_aload_n hx hb dX2_between_0 rfl (lv_at hl 0 rfl) ?_
  refine va_get (D := D) (ci := 3) (v := .ref (ad 0 7)) (C := RX2) (T := TX2) (N := 2) hx hb hts qi_X2 hown hK (xP1 (hX.roads)) 0 rfl rfl 0 (by decide) (hts _ q_fl_X2_11) (fun _ h9 => h9) rfl dX2_between_1 ?_
  refine lv_iload_n hx hb dX2_between_4 rfl (lv_at hl 1 rfl) ?_
  refine lv_iconst (v := nI 1) hx hb dX2_between_5 (by decide) ?_
  refine lv_iadd hx hb dX2_between_6 ?_
  refine xtop (show (a + (nI 1)) = nI ((pa + 1) % 9) from ha.2) ?_
  refine lv_bipush (v := nI 9) hx hb dX2_between_7 (by decide) ?_
  refine lv_imul hx hb dX2_between_9 ?_
  refine xtop (show ((nI ((pa + 1) % 9)) * (nI 9)) = nI (((pa + 1) % 9) * 9) from pk_mul ((pa + 1) % 9) 9) ?_
  refine lv_iload_n hx hb dX2_between_10 rfl (lv_at hl 2 rfl) ?_
  refine lv_iadd hx hb dX2_between_11 ?_
  refine lv_iconst (v := nI 1) hx hb dX2_between_12 (by decide) ?_
  refine lv_iadd hx hb dX2_between_13 ?_
  refine xtop (show (((nI (((pa + 1) % 9) * 9)) + b) + (nI 1)) = nI ((pa + 1) % 9 * 9 + (pb + 1) % 9) from pl_ix ha hb9) ?_
  refine va_iald hx hb hK (xP1 (hX.mi)) 0 0 rfl rfl (i := nI ((pa + 1) % 9 * 9 + (pb + 1) % 9)) (vp_in_nI (n := (pa + 1) % 9 * 9 + (pb + 1) % 9) (by omega) (by omega)) dX2_between_14 ?_
  refine xtop (show ((fun z => g 3 (xpm z)) (nI ((pa + 1) % 9 * 9 + (pb + 1) % 9)).toNatClampNeg) = wy g pa pb from by
      rw [nI_clamp (n := (pa + 1) % 9 * 9 + (pb + 1) % 9) (by omega)]
      show g 3 (xpm ((pa + 1) % 9 * 9 + (pb + 1) % 9)) = _
      rw [xpm_pl ha8 hb8]
      rfl) ?_
  exact W.iret (v := (wy g pa pb)) hx hb hr (fun t ht _ => ⟨rfl, ht⟩) (fun q hq => absurd hq List.not_mem_nil) dX2_between_15
set_option maxHeartbeats 4000000 in
set_option maxRecDepth 100000 in
/-- Roads.leastBy(a, m, S) -/
theorem c_X2_leastBy (l : Launch) (D : va_G) (cA : Nat → ClassId) (e0 : Nat) (A : Nat → Prop) (H0 : Heap) (ad : Nat → Nat → Nat) (g : Nat → Nat → Int32) (tt : Nat → Int64) (N : Nat → Nat) (hX : xW D cA ad g tt N H0) (a : Int32) (pa m1 S : Nat) (ha : isPl a pa) (hm1 : m1 < 8) (hSt : S < 256) (hbit : S.testBit m1 = true) (hh : hwOK g S) : Met l yX2_leastBy w_X2_leastBy ({ frames := 1, cells := 0, slots := 0, locals := 22 } : Room) (xPc D cA e0 A H0 [.ref (ad 0 3), .int (a), .int (nI (m1)), .int (nI (S))]) (xR (some (.int (wy g pa m1 + tw (wy g) (S - 2 ^ m1) m1)))) 0 0 (xNo) := by
  refine Met.ofW (cc := cX2_leastBy) (maxL := 4) (ret := (some .int)) (by decide) rfl ?_
  intro p e s m args below meth c s₁ B hml hv
  obtain ⟨rfl, hH, hE⟩ := hv
  subst hH
  have hx := B.exec
  have hb := B.bytes
  have hr := B.returns
  have hts := hE.1.all ([.ref (ad 0 3), .int (a), .int (nI (m1)), .int (nI (S))] : List Value).toArray
  have hown : s.vm.findClass RX2 = some m.cls := findClass_of_methodNamed B.named
  have hlocks := B.notSynchronized
  have hK := hE.2.1
  have hS : va_S A s.heap s.heap [] := va_S.rf
  have hl := lv_entry ([.ref (ad 0 3), .int (a), .int (nI (m1)), .int (nI (S))]) (n := 4) (Nat.le_of_ble_eq_true rfl)
  rw [lg_entry_eq]
  generalize (lg_sl ([.ref (ad 0 3), .int (a), .int (nI (m1)), .int (nI (S))]) ++ List.replicate (4 - (lg_sl ([.ref (ad 0 3), .int (a), .int (nI (m1)), .int (nI (S))])).length) Slot.unset).toArray = ls at hl ⊢
  have hl : lv_has ls 4 [(0, .ref (ad 0 3)), (1, .int (a)), (2, .int (nI (m1))), (3, .int (nI (S)))] := hl
  refine lv_aload_n hx hb dX2_leastBy_0 rfl (lv_at hl 0 rfl) ?_
  refine lv_iload_n hx hb dX2_leastBy_1 rfl (lv_at hl 1 rfl) ?_
  refine lv_iload_n hx hb dX2_leastBy_2 rfl (lv_at hl 2 rfl) ?_
  refine xcRi (va_runV (As := [.int (a), .int (nI (m1))]) (rest := []) ⟨hx, hb, hml, hown, hts⟩ (c_X2_between l D cA e0 A s.heap ad g tt N hX a (nI m1) pa m1 ha (isPl_m hm1)) ⟨(callB_of 2 hts gi_X2_between rfl rfl rfl (hts _ q_ini_X2) (hts _ q_ml_X2_29) hd_X2_between ⟨Nat.le_of_ble_eq_true rfl, Nat.le_of_ble_eq_true rfl⟩), hts _ q_im_X2_between, hts _ q_sel_X2_X2_between⟩ (xpV hE hS (hX.roads) rfl) rfl rfl hl.1 rfl (lv_room (Nat.le_of_ble_eq_true rfl)) dX2_leastBy_3 ⟨Nat.le_of_ble_eq_true rfl, Nat.le_of_ble_eq_true rfl⟩) ?_
  refine lv_aload_n hx hb dX2_leastBy_6 rfl (lv_at hl 0 rfl) ?_
  refine va_get (D := D) (ci := 3) (v := .ref (ad 0 8)) (C := RX2) (T := TX2) (N := 2) hx hb hts qi_X2 hown hK (xP1 (hX.roads)) 0 rfl rfl 1 (by decide) (hts _ q_fl_X2_15) (fun _ h9 => h9) rfl dX2_leastBy_7 ?_
  refine lv_iload_n hx hb dX2_leastBy_10 rfl (lv_at hl 3 rfl) ?_
  refine lv_bipush (v := nI 8) hx hb dX2_leastBy_11 (by decide) ?_
  refine lv_imul hx hb dX2_leastBy_13 ?_
  refine xtop (show ((nI (S)) * (nI 8)) = nI (S * 8) from pk_mul S 8) ?_
  refine lv_iload_n hx hb dX2_leastBy_14 rfl (lv_at hl 2 rfl) ?_
  refine lv_iadd hx hb dX2_leastBy_15 ?_
  refine xtop (show ((nI (S * 8)) + (nI (m1))) = nI ((S * 8) + m1) from nI_add (S * 8) m1) ?_
  refine va_iald hx hb hK (xP1 (hX.hw)) 0 0 rfl rfl (i := nI ((S * 8) + m1)) (vp_in_nI (n := (S * 8) + m1) (by omega) (by omega)) dX2_leastBy_16 ?_
  refine xtop (show ((fun z => g 17 z) (nI ((S * 8) + m1)).toNatClampNeg) = tw (wy g) (S - 2 ^ m1) m1 from by rw [nI_clamp (n := S * 8 + m1) (by omega)]; exact hh m1 hm1 hbit) ?_
  refine lv_iadd hx hb dX2_leastBy_17 ?_
  exact W.iret (v := ((wy g pa m1) + (tw (wy g) (S - 2 ^ m1) m1))) hx hb hr (fun t ht _ => ⟨rfl, ht⟩) (fun q hq => absurd hq List.not_mem_nil) dX2_leastBy_18
set_option maxHeartbeats 4000000 in
set_option maxRecDepth 100000 in
/-- Roads.nextStop(a, S) -/
theorem c_X2_nextStop (l : Launch) (D : va_G) (cA : Nat → ClassId) (e0 : Nat) (A : Nat → Prop) (H0 : Heap) (ad : Nat → Nat → Nat) (g : Nat → Nat → Int32) (tt : Nat → Int64) (N : Nat → Nat) (hX : xW D cA ad g tt N H0) (a : Int32) (pa S : Nat) (ha : isPl a pa) (hSt : S < 256) (hh : hwOK g S) : Met l yX2_nextStop w_X2_nextStop ({ frames := 2, cells := 0, slots := 0, locals := 45 } : Room) (xPc D cA e0 A H0 [.ref (ad 0 3), .int (a), .int (nI (S))]) (xR (some (.int (amN (fun m => wy g pa m + tw (wy g) (S - 2 ^ m) m) S 8)))) 0 0 (xNo) := by
  refine Met.ofW (cc := cX2_nextStop) (maxL := 7) (ret := (some .int)) (by decide) rfl ?_
  intro p e s m args below meth c s₁ B hml hv
  obtain ⟨rfl, hH, hE⟩ := hv
  subst hH
  have hx := B.exec
  have hb := B.bytes
  have hr := B.returns
  have hts := hE.1.all ([.ref (ad 0 3), .int (a), .int (nI (S))] : List Value).toArray
  have hown : s.vm.findClass RX2 = some m.cls := findClass_of_methodNamed B.named
  have hlocks := B.notSynchronized
  have hK := hE.2.1
  have hS : va_S A s.heap s.heap [] := va_S.rf
  have hl := lv_entry ([.ref (ad 0 3), .int (a), .int (nI (S))]) (n := 7) (Nat.le_of_ble_eq_true rfl)
  rw [lg_entry_eq]
  generalize (lg_sl ([.ref (ad 0 3), .int (a), .int (nI (S))]) ++ List.replicate (7 - (lg_sl ([.ref (ad 0 3), .int (a), .int (nI (S))])).length) Slot.unset).toArray = ls at hl ⊢
  have hl : lv_has ls 7 [(0, .ref (ad 0 3)), (1, .int (a)), (2, .int (nI (S)))] := hl
  refine lv_iconst (v := (-1)) hx hb dX2_nextStop_0 (by decide) ?_
  refine lv_istore_n (lv' := [(3, .int ((-1))), (0, .ref (ad 0 3)), (1, .int (a)), (2, .int (nI (S)))]) hx hb dX2_nextStop_1 rfl hl (by decide) rfl (fun ls hl => ?_)
  refine lv_iconst (v := nI 0) hx hb dX2_nextStop_2 (by decide) ?_
  refine lv_istore (lv' := [(4, .int (nI 0)), (3, .int ((-1))), (0, .ref (ad 0 3)), (1, .int (a)), (2, .int (nI (S)))]) hx hb dX2_nextStop_3 hl (by decide) rfl (fun ls hl => ?_)
  refine lv_iconst (v := nI 0) hx hb dX2_nextStop_5 (by decide) ?_
  refine lv_istore (lv' := [(5, .int (nI 0)), (4, .int (nI 0)), (3, .int ((-1))), (0, .ref (ad 0 3)), (1, .int (a)), (2, .int (nI (S)))]) hx hb dX2_nextStop_6 hl (by decide) rfl (fun ls hl => ?_)
  have LOOP8 : ∀ (n8 : Nat) (i : Nat) (nxt : Int32) (lst : Int32) (ls : Array Slot), (i ≤ 8) → (nxt = amN (fun m => wy g pa m + tw (wy g) (S - 2 ^ m) m) S i) → (lst = amL (fun m => wy g pa m + tw (wy g) (S - 2 ^ m) m) S i) → (8 - i) < n8 → lv_has ls 7 [(5, .int (nI (i))), (4, .int (lst)), (3, .int (nxt)), (0, .ref (ad 0 3)), (1, .int (a)), (2, .int (nI (S)))] → W p l e (headSpec w_X2_nextStop ({ frames := 2, cells := 0, slots := 0, locals := 45 } : Room)).room s m ([.ref (ad 0 3), .int (a), .int (nI (S))] : List Value).toArray below meth c s.heap [] 0 0 (MQ below (xR (some (.int (amN (fun m => wy g pa m + tw (wy g) (S - 2 ^ m) m) S 8)))) ([.ref (ad 0 3), .int (a), .int (nI (S))] : List Value).toArray s 0 0 (xNo)) (F0 m 8 ls []) := by
    intro n8
    induction n8 with
    | zero => intro i nxt lst ls hi hn hlst hmeas hl; exact absurd hmeas (Nat.not_lt_zero _)
    | succ n8 ih8 =>
      intro i nxt lst ls hi hn hlst hmeas hl
      refine lv_iload hx hb dX2_nextStop_8 (lv_at hl 0 rfl) ?_
      refine lv_bipush (v := nI 8) hx hb dX2_nextStop_10 (by decide) ?_
      refine lv_icmp_ge (tgt := 59) hx hb dX2_nextStop_12 (by decide) (fun c12 => ?_) (fun c12 => ?_)
      · have c12 : 8 ≤ i := (nI_leI (a := 8) (b := i) (by omega) (by omega)).mp c12
        have hi8 : i = 8 := by omega
        subst hi8
        refine lv_iload_n hx hb dX2_nextStop_59 rfl (lv_at hl 2 rfl) ?_
        have hres : nxt = amN (fun m => wy g pa m + tw (wy g) (S - 2 ^ m) m) S 8 := hn
        exact W.iret (v := nxt) hx hb hr (fun t ht _ => ⟨congrArg (fun z : Int32 => Outcome.returned (some (Value.int z))) hres, ht⟩) (fun q hq => absurd hq List.not_mem_nil) dX2_nextStop_60
      · have c12 : ¬ (8 ≤ i) := fun z => c12 ((nI_leI (a := 8) (b := i) (by omega) (by omega)).mpr z)
        refine lv_iload_n hx hb dX2_nextStop_15 rfl (lv_at hl 5 rfl) ?_
        refine lv_iload hx hb dX2_nextStop_16 (lv_at hl 0 rfl) ?_
        refine xcRi (va_runSN (As := [.int (nI (S)), .int (nI (i))]) (rest := []) ⟨hx, hb, hml, hown, hts⟩ (c_X4_contains l D cA e0 A s.heap S i hSt (by omega)) ⟨(va_cnB 2 hts gi_X4_contains rfl rfl rfl (hE.1 _ q_mn_X2_18) (hts _ q_ini_X4) hd_X4_contains ⟨Nat.le_of_ble_eq_true rfl, Nat.le_of_ble_eq_true rfl⟩), hts _ q_st_X4_contains, trivial⟩ (xpS hE hS) rfl rfl hl.1 rfl (lv_room (Nat.le_of_ble_eq_true rfl)) dX2_nextStop_18 ⟨Nat.le_of_ble_eq_true rfl, Nat.le_of_ble_eq_true rfl⟩) ?_
        refine lv_if_eq (tgt := 53) hx hb dX2_nextStop_21 (by decide) (fun c21 => ?_) (fun c21 => ?_)
        · have hbit : ¬ S.testBit i = true := fun z => by rw [if_pos z] at c21; exact absurd c21 (by decide)
          refine lv_iinc (v := nI (i + 1)) (lv' := [(5, .int (nI (i + 1))), (4, .int (lst)), (3, .int (nxt)), (0, .ref (ad 0 3)), (1, .int (a)), (2, .int (nI (S)))]) hx hb dX2_nextStop_53 hl (k := 0) rfl (nI_add i 1) (by decide) rfl (fun ls hl => ?_)
          refine lv_goto (tgt := 8) hx hb dX2_nextStop_56 (by decide) ?_
          exact ih8 (i + 1) nxt (lst) _ (by omega) (by rw [hn]; exact (amS_no hbit).1.symm) (by rw [hlst]; exact (amS_no hbit).2.symm) (by omega) (lv_sub hl [0, 1, 2, 3, 4, 5] rfl)
        · have hbit : S.testBit i = true := by
            cases hq : S.testBit i with
            | true => rfl
            | false => rw [hq] at c21; exact absurd rfl c21
          refine lv_aload_n hx hb dX2_nextStop_24 rfl (lv_at hl 3 rfl) ?_
          refine lv_iload_n hx hb dX2_nextStop_25 rfl (lv_at hl 4 rfl) ?_
          refine lv_iload hx hb dX2_nextStop_26 (lv_at hl 0 rfl) ?_
          refine lv_iload_n hx hb dX2_nextStop_28 rfl (lv_at hl 5 rfl) ?_
          refine xcRi (va_runV (As := [.int (a), .int (nI (i)), .int (nI (S))]) (rest := []) ⟨hx, hb, hml, hown, hts⟩ (c_X2_leastBy l D cA e0 A s.heap ad g tt N hX a pa i S ha (by omega) hSt hbit hh) ⟨(callB_of 3 hts gi_X2_leastBy rfl rfl rfl (hts _ q_ini_X2) (hts _ q_ml_X2_35) hd_X2_leastBy ⟨Nat.le_of_ble_eq_true rfl, Nat.le_of_ble_eq_true rfl⟩), hts _ q_im_X2_leastBy, hts _ q_sel_X2_X2_leastBy⟩ (xpV hE hS (hX.roads) rfl) rfl rfl hl.1 rfl (lv_room (Nat.le_of_ble_eq_true rfl)) dX2_nextStop_29 ⟨Nat.le_of_ble_eq_true rfl, Nat.le_of_ble_eq_true rfl⟩) ?_
          refine lv_istore (lv' := [(6, .int (wy g pa i + tw (wy g) (S - 2 ^ i) i)), (5, .int (nI (i))), (4, .int (lst)), (3, .int (nxt)), (0, .ref (ad 0 3)), (1, .int (a)), (2, .int (nI (S)))]) hx hb dX2_nextStop_32 hl (by decide) rfl (fun ls hl => ?_)
          refine lv_iload_n hx hb dX2_nextStop_34 rfl (lv_at hl 3 rfl) ?_
          refine lv_iconst (v := (-1)) hx hb dX2_nextStop_35 (by decide) ?_
          refine lv_icmp_eq (tgt := 46) hx hb dX2_nextStop_36 (by decide) (fun c36 => ?_) (fun c36 => ?_)
          · refine lv_iload hx hb dX2_nextStop_46 (lv_at hl 1 rfl) ?_
            refine lv_istore_n (lv' := [(3, .int (nI (i))), (6, .int (wy g pa i + tw (wy g) (S - 2 ^ i) i)), (5, .int (nI (i))), (4, .int (lst)), (0, .ref (ad 0 3)), (1, .int (a)), (2, .int (nI (S)))]) hx hb dX2_nextStop_48 rfl hl (by decide) rfl (fun ls hl => ?_)
            refine lv_iload hx hb dX2_nextStop_49 (lv_at hl 1 rfl) ?_
            refine lv_istore (lv' := [(4, .int (wy g pa i + tw (wy g) (S - 2 ^ i) i)), (3, .int (nI (i))), (6, .int (wy g pa i + tw (wy g) (S - 2 ^ i) i)), (5, .int (nI (i))), (0, .ref (ad 0 3)), (1, .int (a)), (2, .int (nI (S)))]) hx hb dX2_nextStop_51 hl (by decide) rfl (fun ls hl => ?_)
            refine lv_iinc (v := nI (i + 1)) (lv' := [(5, .int (nI (i + 1))), (4, .int (wy g pa i + tw (wy g) (S - 2 ^ i) i)), (3, .int (nI (i))), (6, .int (wy g pa i + tw (wy g) (S - 2 ^ i) i)), (0, .ref (ad 0 3)), (1, .int (a)), (2, .int (nI (S)))]) hx hb dX2_nextStop_53 hl (k := 3) rfl (nI_add i 1) (by decide) rfl (fun ls hl => ?_)
            refine lv_goto (tgt := 8) hx hb dX2_nextStop_56 (by decide) ?_
            exact ih8 (i + 1) (nI (i)) (wy g pa i + tw (wy g) (S - 2 ^ i) i) _ (by omega) (amS_up (f := fun m => wy g pa m + tw (wy g) (S - 2 ^ m) m) (by omega) hbit (Or.inl (by rw [← hn]; exact c36))).1.symm (amS_up (f := fun m => wy g pa m + tw (wy g) (S - 2 ^ m) m) (by omega) hbit (Or.inl (by rw [← hn]; exact c36))).2.symm (by omega) (lv_sub hl [0, 1, 2, 4, 5, 6] rfl)
          · refine lv_iload hx hb dX2_nextStop_39 (lv_at hl 0 rfl) ?_
            refine lv_iload hx hb dX2_nextStop_41 (lv_at hl 2 rfl) ?_
            refine lv_icmp_ge (tgt := 53) hx hb dX2_nextStop_43 (by decide) (fun c43 => ?_) (fun c43 => ?_)
            · refine lv_iinc (v := nI (i + 1)) (lv' := [(5, .int (nI (i + 1))), (6, .int (wy g pa i + tw (wy g) (S - 2 ^ i) i)), (4, .int (lst)), (3, .int (nxt)), (0, .ref (ad 0 3)), (1, .int (a)), (2, .int (nI (S)))]) hx hb dX2_nextStop_53 hl (k := 1) rfl (nI_add i 1) (by decide) rfl (fun ls hl => ?_)
              refine lv_goto (tgt := 8) hx hb dX2_nextStop_56 (by decide) ?_
              exact ih8 (i + 1) nxt (lst) _ (by omega) (by rw [hn]; exact (amS_keep (by omega) hbit (fun z => c36 (by rw [hn]; exact z)) (fun z => by have z1 : wy g pa i + tw (wy g) (S - 2 ^ i) i < amL (fun m => wy g pa m + tw (wy g) (S - 2 ^ m) m) S i := z; rw [← hlst, i_lt] at z1; rw [i_le] at c43; omega)).1.symm) (by rw [hlst]; exact (amS_keep (by omega) hbit (fun z => c36 (by rw [hn]; exact z)) (fun z => by have z1 : wy g pa i + tw (wy g) (S - 2 ^ i) i < amL (fun m => wy g pa m + tw (wy g) (S - 2 ^ m) m) S i := z; rw [← hlst, i_lt] at z1; rw [i_le] at c43; omega)).2.symm) (by omega) (lv_sub hl [0, 2, 3, 4, 5, 6] rfl)
            · refine lv_iload hx hb dX2_nextStop_46 (lv_at hl 1 rfl) ?_
              refine lv_istore_n (lv' := [(3, .int (nI (i))), (6, .int (wy g pa i + tw (wy g) (S - 2 ^ i) i)), (5, .int (nI (i))), (4, .int (lst)), (0, .ref (ad 0 3)), (1, .int (a)), (2, .int (nI (S)))]) hx hb dX2_nextStop_48 rfl hl (by decide) rfl (fun ls hl => ?_)
              refine lv_iload hx hb dX2_nextStop_49 (lv_at hl 1 rfl) ?_
              refine lv_istore (lv' := [(4, .int (wy g pa i + tw (wy g) (S - 2 ^ i) i)), (3, .int (nI (i))), (6, .int (wy g pa i + tw (wy g) (S - 2 ^ i) i)), (5, .int (nI (i))), (0, .ref (ad 0 3)), (1, .int (a)), (2, .int (nI (S)))]) hx hb dX2_nextStop_51 hl (by decide) rfl (fun ls hl => ?_)
              refine lv_iinc (v := nI (i + 1)) (lv' := [(5, .int (nI (i + 1))), (4, .int (wy g pa i + tw (wy g) (S - 2 ^ i) i)), (3, .int (nI (i))), (6, .int (wy g pa i + tw (wy g) (S - 2 ^ i) i)), (0, .ref (ad 0 3)), (1, .int (a)), (2, .int (nI (S)))]) hx hb dX2_nextStop_53 hl (k := 3) rfl (nI_add i 1) (by decide) rfl (fun ls hl => ?_)
              refine lv_goto (tgt := 8) hx hb dX2_nextStop_56 (by decide) ?_
              exact ih8 (i + 1) (nI (i)) (wy g pa i + tw (wy g) (S - 2 ^ i) i) _ (by omega) (amS_up (f := fun m => wy g pa m + tw (wy g) (S - 2 ^ m) m) (by omega) hbit (Or.inr (show wy g pa i + tw (wy g) (S - 2 ^ i) i < _ from by rw [← hlst, i_lt]; rw [i_le] at c43; omega))).1.symm (amS_up (f := fun m => wy g pa m + tw (wy g) (S - 2 ^ m) m) (by omega) hbit (Or.inr (show wy g pa i + tw (wy g) (S - 2 ^ i) i < _ from by rw [← hlst, i_lt]; rw [i_le] at c43; omega))).2.symm (by omega) (lv_sub hl [0, 1, 2, 4, 5, 6] rfl)
  exact LOOP8 _ 0 (-1) (nI 0) _ (by omega) rfl rfl (Nat.lt_succ_self _) (lv_sub hl [0, 1, 2, 3, 4, 5] rfl)
set_option maxHeartbeats 4000000 in
set_option maxRecDepth 100000 in
/-- Roads.leastFrom(a, S) -/
theorem c_X2_leastFrom (l : Launch) (D : va_G) (cA : Nat → ClassId) (e0 : Nat) (A : Nat → Prop) (H0 : Heap) (ad : Nat → Nat → Nat) (g : Nat → Nat → Int32) (tt : Nat → Int64) (N : Nat → Nat) (hX : xW D cA ad g tt N H0) (a : Int32) (pa S : Nat) (ha : isPl a pa) (hSt : S < 256) (hh : hwOK g S) : Met l yX2_leastFrom w_X2_leastFrom ({ frames := 3, cells := 0, slots := 0, locals := 71 } : Room) (xPc D cA e0 A H0 [.ref (ad 0 3), .int (a), .int (nI (S))]) (xR (some (.int (tw (wy g) S pa)))) 0 0 (xNo) := by
  refine Met.ofW (cc := cX2_leastFrom) (maxL := 3) (ret := (some .int)) (by decide) rfl ?_
  intro p e s m args below meth c s₁ B hml hv
  obtain ⟨rfl, hH, hE⟩ := hv
  subst hH
  have hx := B.exec
  have hb := B.bytes
  have hr := B.returns
  have hts := hE.1.all ([.ref (ad 0 3), .int (a), .int (nI (S))] : List Value).toArray
  have hown : s.vm.findClass RX2 = some m.cls := findClass_of_methodNamed B.named
  have hlocks := B.notSynchronized
  have hK := hE.2.1
  have hS : va_S A s.heap s.heap [] := va_S.rf
  have hl := lv_entry ([.ref (ad 0 3), .int (a), .int (nI (S))]) (n := 3) (Nat.le_of_ble_eq_true rfl)
  rw [lg_entry_eq]
  generalize (lg_sl ([.ref (ad 0 3), .int (a), .int (nI (S))]) ++ List.replicate (3 - (lg_sl ([.ref (ad 0 3), .int (a), .int (nI (S))])).length) Slot.unset).toArray = ls at hl ⊢
  have hl : lv_has ls 3 [(0, .ref (ad 0 3)), (1, .int (a)), (2, .int (nI (S)))] := hl
  refine lv_iload_n hx hb dX2_leastFrom_0 rfl (lv_at hl 2 rfl) ?_
  refine lv_if_ne (tgt := 11) hx hb dX2_leastFrom_1 (by decide) (fun c1 => ?_) (fun c1 => ?_)
  · have h0 : S ≠ 0 := fun z => c1 (by rw [z]; rfl)
    refine lv_aload_n hx hb dX2_leastFrom_11 rfl (lv_at hl 0 rfl) ?_
    refine lv_iload_n hx hb dX2_leastFrom_12 rfl (lv_at hl 1 rfl) ?_
    refine lv_aload_n hx hb dX2_leastFrom_13 rfl (lv_at hl 0 rfl) ?_
    refine lv_iload_n hx hb dX2_leastFrom_14 rfl (lv_at hl 1 rfl) ?_
    refine lv_iload_n hx hb dX2_leastFrom_15 rfl (lv_at hl 2 rfl) ?_
    refine xcRi (va_runV (As := [.int (a), .int (nI (S))]) (rest := [.int (a), .ref (ad 0 3)]) ⟨hx, hb, hml, hown, hts⟩ (c_X2_nextStop l D cA e0 A s.heap ad g tt N hX a pa S ha hSt hh) ⟨(callB_of 2 hts gi_X2_nextStop rfl rfl rfl (hts _ q_ini_X2) (hts _ q_ml_X2_32) hd_X2_nextStop ⟨Nat.le_of_ble_eq_true rfl, Nat.le_of_ble_eq_true rfl⟩), hts _ q_im_X2_nextStop, hts _ q_sel_X2_X2_nextStop⟩ (xpV hE hS (hX.roads) rfl) rfl rfl hl.1 rfl (lv_room (Nat.le_of_ble_eq_true rfl)) dX2_leastFrom_16 ⟨Nat.le_of_ble_eq_true rfl, Nat.le_of_ble_eq_true rfl⟩) ?_
    refine xtop (show (amN (fun m => wy g pa m + tw (wy g) (S - 2 ^ m) m) S 8) = nI (nx (wy g) S pa) from amN_nx (wy g) pa hSt h0) ?_
    refine lv_iload_n hx hb dX2_leastFrom_19 rfl (lv_at hl 2 rfl) ?_
    refine xcRi (va_runV (As := [.int (a), .int (nI (nx (wy g) S pa)), .int (nI (S))]) (rest := []) ⟨hx, hb, hml, hown, hts⟩ (c_X2_leastBy l D cA e0 A s.heap ad g tt N hX a pa (nx (wy g) S pa) S ha (nx_spec (wy g) pa hSt h0).1 hSt (nx_spec (wy g) pa hSt h0).2.1 hh) ⟨(callB_of 3 hts gi_X2_leastBy rfl rfl rfl (hts _ q_ini_X2) (hts _ q_ml_X2_35) hd_X2_leastBy ⟨Nat.le_of_ble_eq_true rfl, Nat.le_of_ble_eq_true rfl⟩), hts _ q_im_X2_leastBy, hts _ q_sel_X2_X2_leastBy⟩ (xpV hE hS (hX.roads) rfl) rfl rfl hl.1 rfl (lv_room (Nat.le_of_ble_eq_true rfl)) dX2_leastFrom_20 ⟨Nat.le_of_ble_eq_true rfl, Nat.le_of_ble_eq_true rfl⟩) ?_
    have hres : wy g pa (nx (wy g) S pa) + tw (wy g) (S - 2 ^ nx (wy g) S pa) (nx (wy g) S pa) = tw (wy g) S pa := (nx_spec (wy g) pa hSt h0).2.2.1
    exact W.iret (v := (wy g pa (nx (wy g) S pa) + tw (wy g) (S - 2 ^ nx (wy g) S pa) (nx (wy g) S pa))) hx hb hr (fun t ht _ => ⟨congrArg (fun z : Int32 => Outcome.returned (some (Value.int z))) hres, ht⟩) (fun q hq => absurd hq List.not_mem_nil) dX2_leastFrom_23
  · have h0 : S = 0 := nI_inj (a := S) (b := 0) (by omega) (by omega) c1
    refine lv_aload_n hx hb dX2_leastFrom_4 rfl (lv_at hl 0 rfl) ?_
    refine lv_iload_n hx hb dX2_leastFrom_5 rfl (lv_at hl 1 rfl) ?_
    refine lv_iconst (v := (-1)) hx hb dX2_leastFrom_6 (by decide) ?_
    refine xcRi (va_runV (As := [.int (a), .int ((-1))]) (rest := []) ⟨hx, hb, hml, hown, hts⟩ (c_X2_between l D cA e0 A s.heap ad g tt N hX a (-1) pa 8 ha isPl_d) ⟨(callB_of 2 hts gi_X2_between rfl rfl rfl (hts _ q_ini_X2) (hts _ q_ml_X2_29) hd_X2_between ⟨Nat.le_of_ble_eq_true rfl, Nat.le_of_ble_eq_true rfl⟩), hts _ q_im_X2_between, hts _ q_sel_X2_X2_between⟩ (xpV hE hS (hX.roads) rfl) rfl rfl hl.1 rfl (lv_room (Nat.le_of_ble_eq_true rfl)) dX2_leastFrom_7 ⟨Nat.le_of_ble_eq_true rfl, Nat.le_of_ble_eq_true rfl⟩) ?_
    have hres : wy g pa 8 = tw (wy g) S pa := by rw [h0, tw_0]
    exact W.iret (v := (wy g pa 8)) hx hb hr (fun t ht _ => ⟨congrArg (fun z : Int32 => Outcome.returned (some (Value.int z))) hres, ht⟩) (fun q hq => absurd hq List.not_mem_nil) dX2_leastFrom_10
set_option maxHeartbeats 4000000 in
set_option maxRecDepth 100000 in
/-- sumOver(S, row) -/
theorem c_X4_sumOver (l : Launch) (D : va_G) (cA : Nat → ClassId) (e0 : Nat) (A : Nat → Prop) (H0 : Heap) (S a1 : Nat) (f : Nat → Int32) (hSt : S < 256) (hF : va_at D vwCl (a1, .inl (cA 0, 8, .inl f)) H0) : Met l yX4_sumOver w_X4_sumOver ({ frames := 1, cells := 0, slots := 0, locals := 21 } : Room) (xPc D cA e0 A H0 [.int (nI (S)), .ref (a1)]) (xR (some (.int (selF S f 8)))) 0 0 (xNo) := by
  refine Met.ofW (cc := cX4_sumOver) (maxL := 4) (ret := (some .int)) (by decide) rfl ?_
  intro p e s m args below meth c s₁ B hml hv
  obtain ⟨rfl, hH, hE⟩ := hv
  subst hH
  have hx := B.exec
  have hb := B.bytes
  have hr := B.returns
  have hts := hE.1.all ([.int (nI (S)), .ref (a1)] : List Value).toArray
  have hown : s.vm.findClass RX4 = some m.cls := findClass_of_methodNamed B.named
  have hlocks := B.notSynchronized
  have hK := hE.2.1
  have hS : va_S A s.heap s.heap [] := va_S.rf
  have hl := lv_entry ([.int (nI (S)), .ref (a1)]) (n := 4) (Nat.le_of_ble_eq_true rfl)
  rw [lg_entry_eq]
  generalize (lg_sl ([.int (nI (S)), .ref (a1)]) ++ List.replicate (4 - (lg_sl ([.int (nI (S)), .ref (a1)])).length) Slot.unset).toArray = ls at hl ⊢
  have hl : lv_has ls 4 [(0, .int (nI (S))), (1, .ref (a1))] := hl
  refine lv_iconst (v := nI 0) hx hb dX4_sumOver_0 (by decide) ?_
  refine lv_istore_n (lv' := [(2, .int (nI 0)), (0, .int (nI (S))), (1, .ref (a1))]) hx hb dX4_sumOver_1 rfl hl (by decide) rfl (fun ls hl => ?_)
  refine lv_iconst (v := nI 0) hx hb dX4_sumOver_2 (by decide) ?_
  refine lv_istore_n (lv' := [(3, .int (nI 0)), (2, .int (nI 0)), (0, .int (nI (S))), (1, .ref (a1))]) hx hb dX4_sumOver_3 rfl hl (by decide) rfl (fun ls hl => ?_)
  have LOOP4 : ∀ (n4 : Nat) (i : Nat) (acc : Int32) (ls : Array Slot), (i ≤ 8) → (acc = selF S f i) → (8 - i) < n4 → lv_has ls 4 [(3, .int (nI (i))), (2, .int (acc)), (0, .int (nI (S))), (1, .ref (a1))] → W p l e (headSpec w_X4_sumOver ({ frames := 1, cells := 0, slots := 0, locals := 21 } : Room)).room s m ([.int (nI (S)), .ref (a1)] : List Value).toArray below meth c s.heap [] 0 0 (MQ below (xR (some (.int (selF S f 8)))) ([.int (nI (S)), .ref (a1)] : List Value).toArray s 0 0 (xNo)) (F0 m 4 ls []) := by
    intro n4
    induction n4 with
    | zero => intro i acc ls hi hacc hmeas hl; exact absurd hmeas (Nat.not_lt_zero _)
    | succ n4 ih4 =>
      intro i acc ls hi hacc hmeas hl
      refine lv_iload_n hx hb dX4_sumOver_4 rfl (lv_at hl 0 rfl) ?_
      refine lv_aload_n hx hb dX4_sumOver_5 rfl (lv_at hl 3 rfl) ?_
      refine va_alen hx hb hK (xP1 hF) 0 0 rfl rfl (v := nI (8)) rfl dX4_sumOver_6 ?_
      refine lv_icmp_ge (tgt := 30) hx hb dX4_sumOver_7 (by decide) (fun c7 => ?_) (fun c7 => ?_)
      · have c7 : 8 ≤ i := (nI_leI (a := 8) (b := i) (by omega) (by omega)).mp c7
        have hi8 : i = 8 := by omega
        subst hi8
        refine lv_iload_n hx hb dX4_sumOver_30 rfl (lv_at hl 1 rfl) ?_
        have hres : acc = selF S f 8 := hacc
        exact W.iret (v := acc) hx hb hr (fun t ht _ => ⟨congrArg (fun z : Int32 => Outcome.returned (some (Value.int z))) hres, ht⟩) (fun q hq => absurd hq List.not_mem_nil) dX4_sumOver_31
      · have c7 : ¬ (8 ≤ i) := fun z => c7 ((nI_leI (a := 8) (b := i) (by omega) (by omega)).mpr z)
        refine lv_iload_n hx hb dX4_sumOver_10 rfl (lv_at hl 2 rfl) ?_
        refine lv_iload_n hx hb dX4_sumOver_11 rfl (lv_at hl 0 rfl) ?_
        refine xcRi (va_runS (As := [.int (nI (S)), .int (nI (i))]) (rest := []) ⟨hx, hb, hml, hown, hts⟩ (c_X4_contains l D cA e0 A s.heap S i hSt (by omega)) ⟨(callB_of 2 hts gi_X4_contains rfl rfl rfl (hts _ q_ini_X4) (hts _ q_ml_X4_229) hd_X4_contains ⟨Nat.le_of_ble_eq_true rfl, Nat.le_of_ble_eq_true rfl⟩), hts _ q_st_X4_contains⟩ (xpS hE hS) rfl rfl hl.1 rfl (lv_room (Nat.le_of_ble_eq_true rfl)) dX4_sumOver_12 ⟨Nat.le_of_ble_eq_true rfl, Nat.le_of_ble_eq_true rfl⟩) ?_
        refine lv_if_eq (tgt := 24) hx hb dX4_sumOver_15 (by decide) (fun c15 => ?_) (fun c15 => ?_)
        · have hbit : ¬ S.testBit i = true := fun z => by rw [if_pos z] at c15; exact absurd c15 (by decide)
          refine lv_iinc (v := nI (i + 1)) (lv' := [(3, .int (nI (i + 1))), (2, .int (acc)), (0, .int (nI (S))), (1, .ref (a1))]) hx hb dX4_sumOver_24 hl (k := 0) rfl (nI_add i 1) (by decide) rfl (fun ls hl => ?_)
          refine lv_goto (tgt := 4) hx hb dX4_sumOver_27 (by decide) ?_
          exact ih4 (i + 1) (acc) _ (by omega) (by rw [selF_no hbit]; exact hacc) (by omega) (lv_sub hl [0, 1, 2, 3] rfl)
        · have hbit : S.testBit i = true := by
            cases hq : S.testBit i with
            | true => rfl
            | false => rw [hq] at c15; exact absurd rfl c15
          refine lv_iload_n hx hb dX4_sumOver_18 rfl (lv_at hl 1 rfl) ?_
          refine lv_aload_n hx hb dX4_sumOver_19 rfl (lv_at hl 3 rfl) ?_
          refine lv_iload_n hx hb dX4_sumOver_20 rfl (lv_at hl 0 rfl) ?_
          refine va_iald hx hb hK (xP1 hF) 0 0 rfl rfl (i := nI (i)) (vp_in_nI (n := i) (by omega) (by omega)) dX4_sumOver_21 ?_
          refine xtop (show ((fun z => f z) (nI (i)).toNatClampNeg) = f i from by rw [nI_clamp (n := i) (by omega)]) ?_
          refine lv_iadd hx hb dX4_sumOver_22 ?_
          refine lv_istore_n (lv' := [(2, .int (acc + (f i))), (3, .int (nI (i))), (0, .int (nI (S))), (1, .ref (a1))]) hx hb dX4_sumOver_23 rfl hl (by decide) rfl (fun ls hl => ?_)
          refine lv_iinc (v := nI (i + 1)) (lv' := [(3, .int (nI (i + 1))), (2, .int (acc + (f i))), (0, .int (nI (S))), (1, .ref (a1))]) hx hb dX4_sumOver_24 hl (k := 1) rfl (nI_add i 1) (by decide) rfl (fun ls hl => ?_)
          refine lv_goto (tgt := 4) hx hb dX4_sumOver_27 (by decide) ?_
          exact ih4 (i + 1) (acc + (f i)) _ (by omega) (by rw [selF_yes hbit, hacc]) (by omega) (lv_sub hl [0, 1, 2, 3] rfl)
  exact LOOP4 _ 0 (nI 0) _ (by omega) rfl (Nat.lt_succ_self _) (lv_sub hl [0, 1, 2, 3] rfl)
set_option maxHeartbeats 4000000 in
set_option maxRecDepth 100000 in
/-- roundTime(S) -/
theorem c_X4_roundTime (l : Launch) (D : va_G) (cA : Nat → ClassId) (e0 : Nat) (A : Nat → Prop) (H0 : Heap) (ad : Nat → Nat → Nat) (g : Nat → Nat → Int32) (tt : Nat → Int64) (N : Nat → Nat) (hX : xW D cA ad g tt N H0) (S : Nat) (hSt : S < 256) (hh : hwOK g S) : Met l yX4_roundTime w_X4_roundTime ({ frames := 4, cells := 0, slots := 0, locals := 93 } : Room) (xPc D cA e0 A H0 [.ref (ad 0 0), .int (nI (S))]) (xR (some (.int (tw (wy g) S 8 + selF S (g 14) 8)))) 0 0 (xNo) := by
  refine Met.ofW (cc := cX4_roundTime) (maxL := 2) (ret := (some .int)) (by decide) rfl ?_
  intro p e s m args below meth c s₁ B hml hv
  obtain ⟨rfl, hH, hE⟩ := hv
  subst hH
  have hx := B.exec
  have hb := B.bytes
  have hr := B.returns
  have hts := hE.1.all ([.ref (ad 0 0), .int (nI (S))] : List Value).toArray
  have hown : s.vm.findClass RX4 = some m.cls := findClass_of_methodNamed B.named
  have hlocks := B.notSynchronized
  have hK := hE.2.1
  have hS : va_S A s.heap s.heap [] := va_S.rf
  have hl := lv_entry ([.ref (ad 0 0), .int (nI (S))]) (n := 2) (Nat.le_of_ble_eq_true rfl)
  rw [lg_entry_eq]
  generalize (lg_sl ([.ref (ad 0 0), .int (nI (S))]) ++ List.replicate (2 - (lg_sl ([.ref (ad 0 0), .int (nI (S))])).length) Slot.unset).toArray = ls at hl ⊢
  have hl : lv_has ls 2 [(0, .ref (ad 0 0)), (1, .int (nI (S)))] := hl
  refine lv_aload_n hx hb dX4_roundTime_0 rfl (lv_at hl 0 rfl) ?_
  refine va_get (D := D) (ci := 5) (v := .ref (ad 0 3)) (C := RX4) (T := TX4) (N := 11) hx hb hts qi_X4 hown hK (xP1 (hX.main)) 0 rfl rfl 2 (by decide) (hts _ q_fl_X4_22) (fun _ h9 => h9) rfl dX4_roundTime_1 ?_
  refine lv_iconst (v := (-1)) hx hb dX4_roundTime_4 (by decide) ?_
  refine lv_iload_n hx hb dX4_roundTime_5 rfl (lv_at hl 1 rfl) ?_
  refine xcRi (va_runV (As := [.int ((-1)), .int (nI (S))]) (rest := []) ⟨hx, hb, hml, hown, hts⟩ (c_X2_leastFrom l D cA e0 A s.heap ad g tt N hX (-1) 8 S isPl_d hSt hh) ⟨(callB_of 2 hts gi_X2_leastFrom rfl rfl rfl (hts _ q_ini_X2) (hts _ q_ml_X4_158) hd_X2_leastFrom ⟨Nat.le_of_ble_eq_true rfl, Nat.le_of_ble_eq_true rfl⟩), hts _ q_im_X2_leastFrom, hts _ q_sel_X2_X2_leastFrom⟩ (xpV hE hS (hX.roads) rfl) rfl rfl hl.1 rfl (lv_room (Nat.le_of_ble_eq_true rfl)) dX4_roundTime_6 ⟨Nat.le_of_ble_eq_true rfl, Nat.le_of_ble_eq_true rfl⟩) ?_
  refine lv_iload_n hx hb dX4_roundTime_9 rfl (lv_at hl 1 rfl) ?_
  refine lv_aload_n hx hb dX4_roundTime_10 rfl (lv_at hl 0 rfl) ?_
  refine va_get (D := D) (ci := 5) (v := .ref (ad 0 4)) (C := RX4) (T := TX4) (N := 11) hx hb hts qi_X4 hown hK (xP1 (hX.main)) 0 rfl rfl 3 (by decide) (hts _ q_fl_X4_26) (fun _ h9 => h9) rfl dX4_roundTime_11 ?_
  refine xcRi (va_runS (As := [.int (nI (S)), .ref (ad 0 4)]) (rest := [.int (tw (wy g) S 8)]) ⟨hx, hb, hml, hown, hts⟩ (c_X4_sumOver l D cA e0 A s.heap S (ad 0 4) (g 14) hSt (hX.vt)) ⟨(callB_of 2 hts gi_X4_sumOver rfl rfl rfl (hts _ q_ini_X4) (hts _ q_ml_X4_185) hd_X4_sumOver ⟨Nat.le_of_ble_eq_true rfl, Nat.le_of_ble_eq_true rfl⟩), hts _ q_st_X4_sumOver⟩ (xpS hE hS) rfl rfl hl.1 rfl (lv_room (Nat.le_of_ble_eq_true rfl)) dX4_roundTime_14 ⟨Nat.le_of_ble_eq_true rfl, Nat.le_of_ble_eq_true rfl⟩) ?_
  refine lv_iadd hx hb dX4_roundTime_17 ?_
  exact W.iret (v := ((tw (wy g) S 8) + (selF S (g 14) 8))) hx hb hr (fun t ht _ => ⟨rfl, ht⟩) (fun q hq => absurd hq List.not_mem_nil) dX4_roundTime_18
