/-! Constructors (by p28.py) -/
set_option maxHeartbeats 4000000 in
set_option maxRecDepth 100000 in
/-- AbstractCollection.<init>() -/
theorem c_Jxa1e45_init_da8c8 (l : Launch) (D : va_G) (cA : Nat → ClassId) (e0 : Nat) (A : Nat → Prop) (H0 : Heap) (a0 : Nat) : Met l yJxa1e45_init_da8c8 w_Jxa1e45_init_da8c8 ({ frames := 1, cells := 0, slots := 0, locals := 40 } : Room) (xPc D cA e0 A H0 [.ref (a0)]) (xR none) 0 0 (xNo) := by
  refine Met.ofW (cc := cJxa1e45_init_da8c8) (maxL := 1) (ret := none) (by decide) rfl ?_
  intro p e s m args below meth c s₁ B hml hv
  obtain ⟨rfl, hH, hE⟩ := hv
  subst hH
  have hx := B.exec
  have hb := B.bytes
  have hr := B.returns
  have hts := hE.1.all ([.ref (a0)] : List Value).toArray
  have hown : s.vm.findClass RJxa1e45 = some m.cls := findClass_of_methodNamed B.named
  have hlocks := B.notSynchronized
  have hin : meth.name = "<init>" := (name_of_methodNamed B.named B.method).1
  have hK := hE.2.1
  have hS : va_S A s.heap s.heap [] := va_S.rf
  have hl := lv_entry ([.ref (a0)]) (n := 1) (Nat.le_of_ble_eq_true rfl)
  rw [lg_entry_eq]
  generalize (lg_sl ([.ref (a0)]) ++ List.replicate (1 - (lg_sl ([.ref (a0)])).length) Slot.unset).toArray = ls at hl ⊢
  have hl : lv_has ls 1 [(0, .ref (a0))] := hl
  refine lv_aload_n hx hb dJxa1e45_init_da8c8_0 rfl (lv_at hl 0 rfl) ?_
  refine W.objInit hx hb hown (hts _ q_ml_Jxa1e45_1) (hts _ q_im_java_lang_Object__init_) (hts _ q_co_obj) rfl (by rw [hml]; exact hl.1) rfl dJxa1e45_init_da8c8_1 (Nat.le_of_ble_eq_true rfl) (Nat.le_of_ble_eq_true rfl) ?_
  refine W.eq (g2 := F0 m 4 ls []) rfl ?_
  exact W.vret hx hb hr (fun t ht _ => ⟨rfl, ht⟩) (fun q hq => absurd hq List.not_mem_nil) dJxa1e45_init_da8c8_4
set_option maxHeartbeats 4000000 in
set_option maxRecDepth 100000 in
/-- AbstractList.<init>() -/
theorem c_Jxc12de_init_da8c8 (l : Launch) (D : va_G) (cA : Nat → ClassId) (e0 : Nat) (A : Nat → Prop) (H0 : Heap) (a0 : Nat) (hL : va_at D vwCl (a0, .inr (0, [.int 0, .null, .int 0])) H0) (hAa : A a0) : Met l yJxc12de_init_da8c8 w_Jxc12de_init_da8c8 ({ frames := 2, cells := 0, slots := 0, locals := 60 } : Room) (xPc D cA e0 A H0 [.ref (a0)]) (xQv (fun h => va_at D vwCl (a0, .inr (0, [.int (nI 0), .null, .int 0])) h) A) 0 0 (A) := by
  refine Met.ofW (cc := cJxc12de_init_da8c8) (maxL := 1) (ret := none) (by decide) rfl ?_
  intro p e s m args below meth c s₁ B hml hv
  obtain ⟨rfl, hH, hE⟩ := hv
  subst hH
  have hx := B.exec
  have hb := B.bytes
  have hr := B.returns
  have hts := hE.1.all ([.ref (a0)] : List Value).toArray
  have hown : s.vm.findClass RJxc12de = some m.cls := findClass_of_methodNamed B.named
  have hlocks := B.notSynchronized
  have hin : meth.name = "<init>" := (name_of_methodNamed B.named B.method).1
  have hK := hE.2.1
  have hS : va_S A s.heap s.heap [] := va_S.rf
  have hl := lv_entry ([.ref (a0)]) (n := 1) (Nat.le_of_ble_eq_true rfl)
  rw [lg_entry_eq]
  generalize (lg_sl ([.ref (a0)]) ++ List.replicate (1 - (lg_sl ([.ref (a0)])).length) Slot.unset).toArray = ls at hl ⊢
  have hl : lv_has ls 1 [(0, .ref (a0))] := hl
  refine lv_aload_n hx hb dJxc12de_init_da8c8_0 rfl (lv_at hl 0 rfl) ?_
  refine xcRv (va_runI (As := []) (rest := []) ⟨hx, hb, hml, hown, hts⟩ (c_Jxa1e45_init_da8c8 l D cA e0 A s.heap a0) ⟨(callB_of 0 hts gi_Jxa1e45_init_da8c8 rfl rfl rfl (hts _ q_ini_Jxa1e45) (hts _ q_ml_Jxc12de_1) hd_Jxa1e45_init_da8c8 ⟨Nat.le_of_ble_eq_true rfl, Nat.le_of_ble_eq_true rfl⟩), rfl, hts _ q_im_Jxa1e45_init_da8c8⟩ (xpS hE hS) rfl rfl hl.1 rfl (lv_room (Nat.le_of_ble_eq_true rfl)) dJxc12de_init_da8c8_1 ⟨Nat.le_of_ble_eq_true rfl, Nat.le_of_ble_eq_true rfl⟩) ?_
  refine lv_aload_n hx hb dJxc12de_init_da8c8_4 rfl (lv_at hl 0 rfl) ?_
  refine lv_iconst (v := nI 0) hx hb dJxc12de_init_da8c8_5 (by decide) ?_
  refine xput (D := D) (ci := 0) (v := .int (nI 0)) (C := RJx4a65c) (T := TJx4a65c) (N := 3) hx hb hts qi_Jx4a65c tyJx4a65c tyJx4a65c_ok nmJx4a65c hown hK hS hL hAa rfl 0 (by decide) (hts _ q_fl_Jxc12de_7) (fun _ h9 => h9) rfl (tyJx4a65c_ok 0 (by decide)) rfl rfl (Nat.le_of_ble_eq_true rfl) dJxc12de_init_da8c8_6 (fun H1 locs hU hS => ?_)
  have hL := hU.1
  have hpost : (fun h => va_at D vwCl (a0, .inr (0, [.int (nI 0), .null, .int 0])) h) H1 := by
    exact hL
  refine W.widen (k := 0) (n := 0) (by omega) (by omega) ?_
  exact W.vret hx hb hr (fun t ht _ => ⟨⟨H1, rfl, hpost, ht⟩, hS.F ht⟩) hS.2.2 dJxc12de_init_da8c8_9
set_option maxHeartbeats 4000000 in
set_option maxRecDepth 100000 in
/-- ArrayList.<init>() -/
theorem c_Jx4a65c_init_da8c8 (l : Launch) (D : va_G) (cA : Nat → ClassId) (e0 : Nat) (A : Nat → Prop) (H0 : Heap) (a0 : Nat) (hL : va_at D vwCl (a0, .inr (0, [.int 0, .null, .int 0])) H0) (hAa : A a0) : Met l yJx4a65c_init_da8c8 w_Jx4a65c_init_da8c8 ({ frames := 3, cells := 0, slots := 0, locals := 80 } : Room) (xPc D cA e0 A H0 [.ref (a0)]) (xQv (fun h => va_at D vwCl (a0, .inr (0, [.int (nI 0), .ref e0, .int 0])) h) A) 0 0 (A) := by
  refine Met.ofW (cc := cJx4a65c_init_da8c8) (maxL := 1) (ret := none) (by decide) rfl ?_
  intro p e s m args below meth c s₁ B hml hv
  obtain ⟨rfl, hH, hE⟩ := hv
  subst hH
  have hx := B.exec
  have hb := B.bytes
  have hr := B.returns
  have hts := hE.1.all ([.ref (a0)] : List Value).toArray
  have hown : s.vm.findClass RJx4a65c = some m.cls := findClass_of_methodNamed B.named
  have hlocks := B.notSynchronized
  have hin : meth.name = "<init>" := (name_of_methodNamed B.named B.method).1
  have hK := hE.2.1
  have hS : va_S A s.heap s.heap [] := va_S.rf
  have hl := lv_entry ([.ref (a0)]) (n := 1) (Nat.le_of_ble_eq_true rfl)
  rw [lg_entry_eq]
  generalize (lg_sl ([.ref (a0)]) ++ List.replicate (1 - (lg_sl ([.ref (a0)])).length) Slot.unset).toArray = ls at hl ⊢
  have hl : lv_has ls 1 [(0, .ref (a0))] := hl
  refine lv_aload_n hx hb dJx4a65c_init_da8c8_0 rfl (lv_at hl 0 rfl) ?_
  refine xcv (va_runI (As := []) (rest := []) ⟨hx, hb, hml, hown, hts⟩ (c_Jxc12de_init_da8c8 l D cA e0 A s.heap a0 hL hAa) ⟨(callB_of 0 hts gi_Jxc12de_init_da8c8 rfl rfl rfl (hts _ q_ini_Jxc12de) (hts _ q_ml_Jx4a65c_1) hd_Jxc12de_init_da8c8 ⟨Nat.le_of_ble_eq_true rfl, Nat.le_of_ble_eq_true rfl⟩), rfl, hts _ q_im_Jxc12de_init_da8c8⟩ (xpS hE hS) rfl rfl hl.1 rfl (lv_room (Nat.le_of_ble_eq_true rfl)) dJx4a65c_init_da8c8_1 ⟨Nat.le_of_ble_eq_true rfl, Nat.le_of_ble_eq_true rfl⟩) hS (fun q h => h) (fun H1 locs hP9 hz9 hk9 hS => ?_)
  have hL := hP9
  refine lv_aload_n hx hb dJx4a65c_init_da8c8_4 rfl (lv_at hl 0 rfl) ?_
  refine va_gets hx hb hE.2.2.2.2.1 hS hown (hts _ q_fl_Jx4a65c_39) (fun _ h => h) dJx4a65c_init_da8c8_5 ?_
  refine xput (D := D) (ci := 0) (v := .ref (e0)) (C := RJx4a65c) (T := TJx4a65c) (N := 3) hx hb hts qi_Jx4a65c tyJx4a65c tyJx4a65c_ok nmJx4a65c hown hK hS hL hAa rfl 1 (by decide) (hts _ q_fl_Jx4a65c_9) (fun _ h9 => h9) rfl (tyJx4a65c_ok 1 (by decide)) rfl rfl (Nat.le_of_ble_eq_true rfl) dJx4a65c_init_da8c8_8 (fun H2 locs hU hS => ?_)
  have hL := hU.1
  have hpost : (fun h => va_at D vwCl (a0, .inr (0, [.int (nI 0), .ref e0, .int 0])) h) H2 := by
    exact hL
  refine W.widen (k := 0) (n := 0) (by omega) (by omega) ?_
  exact W.vret hx hb hr (fun t ht _ => ⟨⟨H2, rfl, hpost, ht⟩, hS.F ht⟩) hS.2.2 dJx4a65c_init_da8c8_11
set_option maxHeartbeats 4000000 in
set_option maxRecDepth 100000 in
/-- Slot.<init>() -/
theorem c_X3_init (l : Launch) (D : va_G) (cA : Nat → ClassId) (e0 : Nat) (A : Nat → Prop) (H0 : Heap) (a0 : Nat) (hL : va_at D vwCl (a0, .inr (4, [.int 0, .int 0, .int 0, .int 0, .int 0, .int 0])) H0) (hAa : A a0) : Met l yX3_init w_X3_init ({ frames := 1, cells := 0, slots := 0, locals := 40 } : Room) (xPc D cA e0 A H0 [.ref (a0)]) (xQv (fun h => va_at D vwCl (a0, .inr (4, [.int 0, .int 0, .int (nI 100), .int 0, .int 0, .int 0])) h) A) 0 0 (A) := by
  refine Met.ofW (cc := cX3_init) (maxL := 1) (ret := none) (by decide) rfl ?_
  intro p e s m args below meth c s₁ B hml hv
  obtain ⟨rfl, hH, hE⟩ := hv
  subst hH
  have hx := B.exec
  have hb := B.bytes
  have hr := B.returns
  have hts := hE.1.all ([.ref (a0)] : List Value).toArray
  have hown : s.vm.findClass RX3 = some m.cls := findClass_of_methodNamed B.named
  have hlocks := B.notSynchronized
  have hin : meth.name = "<init>" := (name_of_methodNamed B.named B.method).1
  have hK := hE.2.1
  have hS : va_S A s.heap s.heap [] := va_S.rf
  have hl := lv_entry ([.ref (a0)]) (n := 1) (Nat.le_of_ble_eq_true rfl)
  rw [lg_entry_eq]
  generalize (lg_sl ([.ref (a0)]) ++ List.replicate (1 - (lg_sl ([.ref (a0)])).length) Slot.unset).toArray = ls at hl ⊢
  have hl : lv_has ls 1 [(0, .ref (a0))] := hl
  refine lv_aload_n hx hb dX3_init_0 rfl (lv_at hl 0 rfl) ?_
  refine W.objInit hx hb hown (hts _ q_ml_X3_1) (hts _ q_im_java_lang_Object__init_) (hts _ q_co_obj) rfl (by rw [hml]; exact hl.1) rfl dX3_init_1 (Nat.le_of_ble_eq_true rfl) (Nat.le_of_ble_eq_true rfl) ?_
  refine W.eq (g2 := F0 m 4 ls []) rfl ?_
  refine lv_aload_n hx hb dX3_init_4 rfl (lv_at hl 0 rfl) ?_
  refine lv_bipush (v := nI 100) hx hb dX3_init_5 (by decide) ?_
  refine xput (D := D) (ci := 4) (v := .int (nI 100)) (C := RX3) (T := TX3) (N := 6) hx hb hts qi_X3 tyX3 tyX3_ok nmX3 hown hK hS hL hAa rfl 2 (by decide) (hts _ q_fl_X3_7) (fun _ h9 => h9) rfl (tyX3_ok 2 (by decide)) rfl rfl (Nat.le_of_ble_eq_true rfl) dX3_init_7 (fun H1 locs hU hS => ?_)
  have hL := hU.1
  have hpost : (fun h => va_at D vwCl (a0, .inr (4, [.int 0, .int 0, .int (nI 100), .int 0, .int 0, .int 0])) h) H1 := by
    exact hL
  refine W.widen (k := 0) (n := 0) (by omega) (by omega) ?_
  exact W.vret hx hb hr (fun t ht _ => ⟨⟨H1, rfl, hpost, ht⟩, hS.F ht⟩) hS.2.2 dX3_init_10
set_option maxHeartbeats 4000000 in
set_option maxRecDepth 100000 in
/-- PriceChange.<init>(sl, dy, pr) -/
theorem c_X1_init (l : Launch) (D : va_G) (cA : Nat → ClassId) (e0 : Nat) (A : Nat → Prop) (H0 : Heap) (a0 : Nat) (hL : va_at D vwCl (a0, .inr (2, [.null, .int 0, .int 0])) H0) (hAa : A a0) (sl : Nat) (dy pr : Int32) : Met l yX1_init w_X1_init ({ frames := 1, cells := 0, slots := 0, locals := 40 } : Room) (xPc D cA e0 A H0 [.ref (a0), .ref (sl), .int (dy), .int (pr)]) (xQv (fun h => va_at D vwCl (a0, .inr (2, [.ref sl, .int dy, .int pr])) h) A) 0 0 (A) := by
  refine Met.ofW (cc := cX1_init) (maxL := 4) (ret := none) (by decide) rfl ?_
  intro p e s m args below meth c s₁ B hml hv
  obtain ⟨rfl, hH, hE⟩ := hv
  subst hH
  have hx := B.exec
  have hb := B.bytes
  have hr := B.returns
  have hts := hE.1.all ([.ref (a0), .ref (sl), .int (dy), .int (pr)] : List Value).toArray
  have hown : s.vm.findClass RX1 = some m.cls := findClass_of_methodNamed B.named
  have hlocks := B.notSynchronized
  have hin : meth.name = "<init>" := (name_of_methodNamed B.named B.method).1
  have hK := hE.2.1
  have hS : va_S A s.heap s.heap [] := va_S.rf
  have hl := lv_entry ([.ref (a0), .ref (sl), .int (dy), .int (pr)]) (n := 4) (Nat.le_of_ble_eq_true rfl)
  rw [lg_entry_eq]
  generalize (lg_sl ([.ref (a0), .ref (sl), .int (dy), .int (pr)]) ++ List.replicate (4 - (lg_sl ([.ref (a0), .ref (sl), .int (dy), .int (pr)])).length) Slot.unset).toArray = ls at hl ⊢
  have hl : lv_has ls 4 [(0, .ref (a0)), (1, .ref (sl)), (2, .int (dy)), (3, .int (pr))] := hl
  refine lv_aload_n hx hb dX1_init_0 rfl (lv_at hl 0 rfl) ?_
  refine W.objInit hx hb hown (hts _ q_ml_X1_1) (hts _ q_im_java_lang_Object__init_) (hts _ q_co_obj) rfl (by rw [hml]; exact hl.1) rfl dX1_init_1 (Nat.le_of_ble_eq_true rfl) (Nat.le_of_ble_eq_true rfl) ?_
  refine W.eq (g2 := F0 m 4 ls []) rfl ?_
  refine lv_aload_n hx hb dX1_init_4 rfl (lv_at hl 0 rfl) ?_
  refine lv_aload_n hx hb dX1_init_5 rfl (lv_at hl 1 rfl) ?_
  refine xputF (D := D) (ci := 2) (v := .ref (sl)) (C := RX1) (T := TX1) (N := 3) hx hb hts qi_X1 tyX1 tyX1_ok nmX1 hown hK hS hL hAa rfl 0 (by decide) (hts _ q_fl_X1_7) (fun _ h9 => h9) rfl hin rfl (tyX1_ok 0 (by decide)) rfl rfl (Nat.le_of_ble_eq_true rfl) dX1_init_6 (fun H1 locs hU hS => ?_)
  have hL := hU.1
  refine lv_aload_n hx hb dX1_init_9 rfl (lv_at hl 0 rfl) ?_
  refine lv_iload_n hx hb dX1_init_10 rfl (lv_at hl 2 rfl) ?_
  refine xputF (D := D) (ci := 2) (v := .int (dy)) (C := RX1) (T := TX1) (N := 3) hx hb hts qi_X1 tyX1 tyX1_ok nmX1 hown hK hS hL hAa rfl 1 (by decide) (hts _ q_fl_X1_13) (fun _ h9 => h9) rfl hin rfl (tyX1_ok 1 (by decide)) rfl rfl (Nat.le_of_ble_eq_true rfl) dX1_init_11 (fun H2 locs hU hS => ?_)
  have hL := hU.1
  refine lv_aload_n hx hb dX1_init_14 rfl (lv_at hl 0 rfl) ?_
  refine lv_iload_n hx hb dX1_init_15 rfl (lv_at hl 3 rfl) ?_
  refine xputF (D := D) (ci := 2) (v := .int (pr)) (C := RX1) (T := TX1) (N := 3) hx hb hts qi_X1 tyX1 tyX1_ok nmX1 hown hK hS hL hAa rfl 2 (by decide) (hts _ q_fl_X1_17) (fun _ h9 => h9) rfl hin rfl (tyX1_ok 2 (by decide)) rfl rfl (Nat.le_of_ble_eq_true rfl) dX1_init_16 (fun H3 locs hU hS => ?_)
  have hL := hU.1
  have hpost : (fun h => va_at D vwCl (a0, .inr (2, [.ref sl, .int dy, .int pr])) h) H3 := by
    exact hL
  refine W.widen (k := 0) (n := 0) (by omega) (by omega) ?_
  exact W.vret hx hb hr (fun t ht _ => ⟨⟨H3, rfl, hpost, ht⟩, hS.F ht⟩) hS.2.2 dX1_init_19
