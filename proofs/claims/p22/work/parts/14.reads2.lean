/-! The class: calls that only read and may refuse (by p14.py) -/
-- not reached: X4_slot
set_option maxHeartbeats 4000000 in
set_option maxRecDepth 100000 in
/-- machine(v, x) -/
theorem c_X4_machine (l : Launch) (D : va_G) (cA : Nat → ClassId) (e0 : Nat) (A : Nat → Prop) (H0 : Heap) (ad : Nat → Nat → Nat) (g : Nat → Nat → Int32) (tt : Nat → Int64) (N : Nat → Nat) (hX : xW D cA ad g tt N H0) (v x : Int32) (hA : xA A e0 ad N) (hl9 : l.stackTraces = false) : vx_Met l yX4_machine w_X4_machine ({ frames := 7, cells := 2, slots := 12, locals := 121 } : Room) (xPc D cA e0 A H0 [.ref (ad 0 0), .int (v), .int (x)]) (xQi (fun r h => h = H0 ∧ (okM (N 0) v ∧ okK 4 x) ∧ r = machF g (cl v) (cl x)) A) (xX (fun E => E = xIOB ∧ ¬ (okM (N 0) v ∧ okK 4 x))) 2 12 (A) := by
  refine vx_ofW (cc := cX4_machine) (maxL := 4) (ret := (some .int)) (by decide) rfl ?_
  intro p e s m args below meth c s₁ B hml hxt hv
  obtain ⟨rfl, hH, hE⟩ := hv
  subst hH
  have hx := B.exec
  have hb := B.bytes
  have hr := B.returns
  have hts := hE.1.all ([.ref (ad 0 0), .int (v), .int (x)] : List Value).toArray
  have hown : s.vm.findClass RX4 = some m.cls := findClass_of_methodNamed B.named
  have hlocks := B.notSynchronized
  have hK := hE.2.1
  have hS : va_S A s.heap s.heap [] := va_S.rf
  have hl := lv_entry ([.ref (ad 0 0), .int (v), .int (x)]) (n := 4) (Nat.le_of_ble_eq_true rfl)
  rw [lg_entry_eq]
  generalize (lg_sl ([.ref (ad 0 0), .int (v), .int (x)]) ++ List.replicate (4 - (lg_sl ([.ref (ad 0 0), .int (v), .int (x)])).length) Slot.unset).toArray = ls at hl ⊢
  have hl : lv_has ls 4 [(0, .ref (ad 0 0)), (1, .int (v)), (2, .int (x))] := hl
  have hn8 := hA.n8
  refine lv_aload_n hx hb dX4_machine_0 rfl (lv_at hl 0 rfl) ?_
  refine lv_iload_n hx hb dX4_machine_1 rfl (lv_at hl 1 rfl) ?_
  refine xcXr (vx_runV (As := [.int (v)]) (rest := []) ⟨hx, hb, hml, hown, hts⟩ (c_X4_machineAt l D cA e0 A s.heap ad g tt N hX v hA hl9) ⟨(callB_of 1 hts gi_X4_machineAt rfl rfl rfl (hts _ q_ini_X4) (hts _ q_ml_X4_138) hd_X4_machineAt ⟨Nat.le_of_ble_eq_true rfl, Nat.le_of_ble_eq_true rfl⟩), hts _ q_im_X4_machineAt, hts _ q_sel_X4_X4_machineAt⟩ (xpV hE hS (hX.main) rfl) rfl rfl hl.1 rfl (lv_room (Nat.le_of_ble_eq_true rfl)) dX4_machine_2 ⟨Nat.le_of_ble_eq_true rfl, Nat.le_of_ble_eq_true rfl⟩) hS (fun q h => h) (fun E9 ce9 q9 H9 locs9 hPX9 hz9 hk9 hS9 hc9 hv9 hcl9 => ?_) (fun r9_1 H1 locs hP9 hz9 hk9 hS => ?_)
  · exact vx_out (fun x h => (hxt x h).elim) hlocks hc9 hv9 hcl9 (fun t ht _ => ⟨(), trivial, ⟨hPX9.1, fun z => hPX9.2 z.1⟩, by rw [ht]; exact hz9, fun q hq _ => by rw [ht]; exact hk9 q hq⟩) hS9.2.2 (Nat.le_of_ble_eq_true rfl) (Nat.le_of_ble_eq_true rfl)
  obtain ⟨rfl, i0, hi0, rfl, rfl⟩ := hP9
  refine lv_astore_n (lv' := [(3, .ref (ad 1 i0)), (0, .ref (ad 0 0)), (1, .int (nI (i0))), (2, .int (x))]) hx hb dX4_machine_5 rfl hl (by decide) rfl (fun ls hl => ?_)
  refine lv_iload_n hx hb dX4_machine_6 rfl (lv_at hl 3 rfl) ?_
  refine lv_iconst (v := nI 0) hx hb dX4_machine_7 (by decide) ?_
  refine lv_iconst (v := nI 4) hx hb dX4_machine_8 (by decide) ?_
  refine xcRi (va_runS (As := [.int (x), .int (nI 0), .int (nI 4)]) (rest := []) ⟨hx, hb, hml, hown, hts⟩ (c_X4_outside l D cA e0 A s.heap x (nI 0) (nI 4)) ⟨(callB_of 3 hts gi_X4_outside rfl rfl rfl (hts _ q_ini_X4) (hts _ q_ml_X4_37) hd_X4_outside ⟨Nat.le_of_ble_eq_true rfl, Nat.le_of_ble_eq_true rfl⟩), hts _ q_st_X4_outside⟩ (xpS hE hS) rfl rfl hl.1 rfl (lv_room (Nat.le_of_ble_eq_true rfl)) dX4_machine_9 ⟨Nat.le_of_ble_eq_true rfl, Nat.le_of_ble_eq_true rfl⟩) ?_
  refine lv_if_eq (tgt := 25) hx hb dX4_machine_12 (by decide) (fun c12 => ?_) (fun c12 => ?_)
  · obtain ⟨x0, hx0, rfl⟩ := (ou_k (by omega)).mp c12
    refine lv_aload_n hx hb dX4_machine_25 rfl (lv_at hl 0 rfl) ?_
    refine lv_iload_n hx hb dX4_machine_26 rfl (lv_at hl 3 rfl) ?_
    refine xcRi (va_runV (As := [.int (nI (x0))]) (rest := []) ⟨hx, hb, hml, hown, hts⟩ (c_X0_fact l D cA e0 A s.heap ad g tt N hX i0 hi0 x0 (by omega)) ⟨(callB_of 1 hts gi_X0_fact rfl rfl rfl (hts _ q_ini_X0) (hts _ q_ml_X4_144) hd_X0_fact ⟨Nat.le_of_ble_eq_true rfl, Nat.le_of_ble_eq_true rfl⟩), hts _ q_im_X0_fact, hts _ q_sel_X0_X0_fact⟩ (xpV hE hS (hX.mach hi0) rfl) rfl rfl hl.1 rfl (lv_room (Nat.le_of_ble_eq_true rfl)) dX4_machine_27 ⟨Nat.le_of_ble_eq_true rfl, Nat.le_of_ble_eq_true rfl⟩) ?_
    refine vx_ret ?_
    have hpost := (⟨rfl, ⟨⟨i0, hi0, rfl⟩, x0, hx0, rfl⟩, by rw [cl_nI (n := i0) (by omega), cl_nI (n := x0) (by omega)]⟩ : s.heap = s.heap ∧ (okM (N 0) (nI i0) ∧ okK 4 (nI x0)) ∧ machF g i0 x0 = machF g (cl (nI i0)) (cl (nI x0)))
    refine W.widen (k := 2) (n := 12) (by omega) (by omega) ?_
    exact W.iret (v := (machF g i0 x0)) hx hb hr (fun t ht _ => ⟨⟨(machF g i0 x0), s.heap, rfl, hpost, ht⟩, hS.F ht⟩) hS.2.2 dX4_machine_30
  · exact xthrow (cls := xIOB) (text := "what is not 0 to 4") hx hb hl9 hE hS hown (by decide +kernel) q_cl_X4_73 q_ini_java_lang_IndexOutOfBoundsException xth_IOB xgd_IOB (by decide) (hl.1.trans hml.symm) dX4_machine_15 dX4_machine_18 dX4_machine_19 dX4_machine_21 dX4_machine_24 hxt (Nat.le_of_ble_eq_true rfl) (Nat.le_of_ble_eq_true rfl) (Nat.le_of_ble_eq_true rfl) (Nat.le_of_ble_eq_true rfl) hlocks (⟨rfl, fun z => c12 ((ou_k (by omega)).mpr z.2)⟩) (Nat.le_of_ble_eq_true rfl) (Nat.le_of_ble_eq_true rfl)
-- not reached: X4_runsOut
set_option maxHeartbeats 4000000 in
set_option maxRecDepth 100000 in
/-- drive(v) -/
theorem c_X4_drive (l : Launch) (D : va_G) (cA : Nat → ClassId) (e0 : Nat) (A : Nat → Prop) (H0 : Heap) (ad : Nat → Nat → Nat) (g : Nat → Nat → Int32) (tt : Nat → Int64) (N : Nat → Nat) (hX : xW D cA ad g tt N H0) (v : Int32) (hA : xA A e0 ad N) (hW : hwAll g (N 0)) (hl9 : l.stackTraces = false) : vx_Met l yX4_drive w_X4_drive ({ frames := 7, cells := 1, slots := 6, locals := 121 } : Room) (xPc D cA e0 A H0 [.ref (ad 0 0), .int (v)]) (xQi (fun r h => h = H0 ∧ okT (N 0) v ∧ r = tw (wy g) (cl v) 8) A) (xX (fun E => E = xIAE ∧ ¬ okT (N 0) v)) 1 6 (A) := by
  refine vx_ofW (cc := cX4_drive) (maxL := 2) (ret := (some .int)) (by decide) rfl ?_
  intro p e s m args below meth c s₁ B hml hxt hv
  obtain ⟨rfl, hH, hE⟩ := hv
  subst hH
  have hx := B.exec
  have hb := B.bytes
  have hr := B.returns
  have hts := hE.1.all ([.ref (ad 0 0), .int (v)] : List Value).toArray
  have hown : s.vm.findClass RX4 = some m.cls := findClass_of_methodNamed B.named
  have hlocks := B.notSynchronized
  have hK := hE.2.1
  have hS : va_S A s.heap s.heap [] := va_S.rf
  have hl := lv_entry ([.ref (ad 0 0), .int (v)]) (n := 2) (Nat.le_of_ble_eq_true rfl)
  rw [lg_entry_eq]
  generalize (lg_sl ([.ref (ad 0 0), .int (v)]) ++ List.replicate (2 - (lg_sl ([.ref (ad 0 0), .int (v)])).length) Slot.unset).toArray = ls at hl ⊢
  have hl : lv_has ls 2 [(0, .ref (ad 0 0)), (1, .int (v))] := hl
  refine lv_aload_n hx hb dX4_drive_0 rfl (lv_at hl 0 rfl) ?_
  refine lv_iload_n hx hb dX4_drive_1 rfl (lv_at hl 1 rfl) ?_
  refine xcXv (vx_runV (As := [.int (v)]) (rest := []) ⟨hx, hb, hml, hown, hts⟩ (c_X4_requireSet l D cA e0 A s.heap ad g tt N hX v hA hl9) ⟨(callB_of 1 hts gi_X4_requireSet rfl rfl rfl (hts _ q_ini_X4) (hts _ q_ml_X4_155) hd_X4_requireSet ⟨Nat.le_of_ble_eq_true rfl, Nat.le_of_ble_eq_true rfl⟩), hts _ q_im_X4_requireSet, hts _ q_sel_X4_X4_requireSet⟩ (xpV hE hS (hX.main) rfl) rfl rfl hl.1 rfl (lv_room (Nat.le_of_ble_eq_true rfl)) dX4_drive_2 ⟨Nat.le_of_ble_eq_true rfl, Nat.le_of_ble_eq_true rfl⟩) hS (fun q h => h) (fun E9 ce9 q9 H9 locs9 hPX9 hz9 hk9 hS9 hc9 hv9 hcl9 => ?_) (fun H1 locs hP9 hz9 hk9 hS => ?_)
  · exact vx_out (fun x h => (hxt x h).elim) hlocks hc9 hv9 hcl9 (fun t ht _ => ⟨(), trivial, hPX9, by rw [ht]; exact hz9, fun q hq _ => by rw [ht]; exact hk9 q hq⟩) hS9.2.2 (Nat.le_of_ble_eq_true rfl) (Nat.le_of_ble_eq_true rfl)
  obtain ⟨rfl, S, hS2, rfl⟩ := hP9
  have hSt : S < 256 := Nat.lt_of_lt_of_le hS2 (pow256 hA.n8)
  refine lv_aload_n hx hb dX4_drive_5 rfl (lv_at hl 0 rfl) ?_
  refine va_get (D := D) (ci := 5) (v := .ref (ad 0 3)) (C := RX4) (T := TX4) (N := 11) hx hb hts qi_X4 hown hK (xP1 (hX.main)) 0 rfl rfl 2 (by decide) (hts _ q_fl_X4_22) (fun _ h9 => h9) rfl dX4_drive_6 ?_
  refine lv_iconst (v := (-1)) hx hb dX4_drive_9 (by decide) ?_
  refine lv_iload_n hx hb dX4_drive_10 rfl (lv_at hl 1 rfl) ?_
  refine xcRi (va_runV (As := [.int ((-1)), .int (nI (S))]) (rest := []) ⟨hx, hb, hml, hown, hts⟩ (c_X2_leastFrom l D cA e0 A s.heap ad g tt N hX (-1) 8 S isPl_d hSt (hW S hS2)) ⟨(callB_of 2 hts gi_X2_leastFrom rfl rfl rfl (hts _ q_ini_X2) (hts _ q_ml_X4_158) hd_X2_leastFrom ⟨Nat.le_of_ble_eq_true rfl, Nat.le_of_ble_eq_true rfl⟩), hts _ q_im_X2_leastFrom, hts _ q_sel_X2_X2_leastFrom⟩ (xpV hE hS (hX.roads) rfl) rfl rfl hl.1 rfl (lv_room (Nat.le_of_ble_eq_true rfl)) dX4_drive_11 ⟨Nat.le_of_ble_eq_true rfl, Nat.le_of_ble_eq_true rfl⟩) ?_
  refine vx_ret ?_
  have hpost := (⟨rfl, ⟨S, hS2, rfl⟩, by rw [cl_nI (n := S) (by omega)]⟩ : s.heap = s.heap ∧ okT (N 0) (nI S) ∧ tw (wy g) S 8 = tw (wy g) (cl (nI S)) 8)
  refine W.widen (k := 1) (n := 6) (by omega) (by omega) ?_
  exact W.iret (v := (tw (wy g) S 8)) hx hb hr (fun t ht _ => ⟨⟨(tw (wy g) S 8), s.heap, rfl, hpost, ht⟩, hS.F ht⟩) hS.2.2 dX4_drive_14
set_option maxHeartbeats 4000000 in
set_option maxRecDepth 100000 in
/-- visit(v, x) -/
theorem c_X4_visit (l : Launch) (D : va_G) (cA : Nat → ClassId) (e0 : Nat) (A : Nat → Prop) (H0 : Heap) (ad : Nat → Nat → Nat) (g : Nat → Nat → Int32) (tt : Nat → Int64) (N : Nat → Nat) (hX : xW D cA ad g tt N H0) (v x : Int32) (hA : xA A e0 ad N) (hW : hwAll g (N 0)) (hl9 : l.stackTraces = false) : vx_Met l yX4_visit w_X4_visit ({ frames := 7, cells := 2, slots := 12, locals := 121 } : Room) (xPc D cA e0 A H0 [.ref (ad 0 0), .int (v), .int (x)]) (xQi (fun r h => h = H0 ∧ (okT (N 0) v ∧ okV v x) ∧ r = nI (vs (wy g) (cl v) (cl x + 1)).2) A) (xX (fun E => (E = xIAE ∧ ¬ okT (N 0) v) ∨ (E = xIOB ∧ okT (N 0) v ∧ ¬ okV v x))) 2 12 (A) := by
  refine vx_ofW (cc := cX4_visit) (maxL := 6) (ret := (some .int)) (by decide) rfl ?_
  intro p e s m args below meth c s₁ B hml hxt hv
  obtain ⟨rfl, hH, hE⟩ := hv
  subst hH
  have hx := B.exec
  have hb := B.bytes
  have hr := B.returns
  have hts := hE.1.all ([.ref (ad 0 0), .int (v), .int (x)] : List Value).toArray
  have hown : s.vm.findClass RX4 = some m.cls := findClass_of_methodNamed B.named
  have hlocks := B.notSynchronized
  have hK := hE.2.1
  have hS : va_S A s.heap s.heap [] := va_S.rf
  have hl := lv_entry ([.ref (ad 0 0), .int (v), .int (x)]) (n := 6) (Nat.le_of_ble_eq_true rfl)
  rw [lg_entry_eq]
  generalize (lg_sl ([.ref (ad 0 0), .int (v), .int (x)]) ++ List.replicate (6 - (lg_sl ([.ref (ad 0 0), .int (v), .int (x)])).length) Slot.unset).toArray = ls at hl ⊢
  have hl : lv_has ls 6 [(0, .ref (ad 0 0)), (1, .int (v)), (2, .int (x))] := hl
  refine lv_aload_n hx hb dX4_visit_0 rfl (lv_at hl 0 rfl) ?_
  refine lv_iload_n hx hb dX4_visit_1 rfl (lv_at hl 1 rfl) ?_
  refine xcXv (vx_runV (As := [.int (v)]) (rest := []) ⟨hx, hb, hml, hown, hts⟩ (c_X4_requireSet l D cA e0 A s.heap ad g tt N hX v hA hl9) ⟨(callB_of 1 hts gi_X4_requireSet rfl rfl rfl (hts _ q_ini_X4) (hts _ q_ml_X4_155) hd_X4_requireSet ⟨Nat.le_of_ble_eq_true rfl, Nat.le_of_ble_eq_true rfl⟩), hts _ q_im_X4_requireSet, hts _ q_sel_X4_X4_requireSet⟩ (xpV hE hS (hX.main) rfl) rfl rfl hl.1 rfl (lv_room (Nat.le_of_ble_eq_true rfl)) dX4_visit_2 ⟨Nat.le_of_ble_eq_true rfl, Nat.le_of_ble_eq_true rfl⟩) hS (fun q h => h) (fun E9 ce9 q9 H9 locs9 hPX9 hz9 hk9 hS9 hc9 hv9 hcl9 => ?_) (fun H1 locs hP9 hz9 hk9 hS => ?_)
  · exact vx_out (fun x h => (hxt x h).elim) hlocks hc9 hv9 hcl9 (fun t ht _ => ⟨(), trivial, Or.inl hPX9, by rw [ht]; exact hz9, fun q hq _ => by rw [ht]; exact hk9 q hq⟩) hS9.2.2 (Nat.le_of_ble_eq_true rfl) (Nat.le_of_ble_eq_true rfl)
  obtain ⟨rfl, S, hS2, rfl⟩ := hP9
  have hSt : S < 256 := Nat.lt_of_lt_of_le hS2 (pow256 hA.n8)
  refine lv_iload_n hx hb dX4_visit_5 rfl (lv_at hl 2 rfl) ?_
  refine lv_iconst (v := nI 0) hx hb dX4_visit_6 (by decide) ?_
  refine lv_iload_n hx hb dX4_visit_7 rfl (lv_at hl 1 rfl) ?_
  refine xcRi (va_runS (As := [.int (nI (S))]) (rest := [.int (nI 0), .int (x)]) ⟨hx, hb, hml, hown, hts⟩ (c_J6_bitCount_0f7a4 l D cA e0 A s.heap S hSt) ⟨(callB_of 1 hts gi_J6_bitCount_0f7a4 rfl rfl rfl (hts _ q_ini_J6) (hts _ q_ml_X4_161) hd_J6_bitCount_0f7a4 ⟨Nat.le_of_ble_eq_true rfl, Nat.le_of_ble_eq_true rfl⟩), hts _ q_st_J6_bitCount_0f7a4⟩ (xpS hE hS) rfl rfl hl.1 rfl (lv_room (Nat.le_of_ble_eq_true rfl)) dX4_visit_8 ⟨Nat.le_of_ble_eq_true rfl, Nat.le_of_ble_eq_true rfl⟩) ?_
  refine lv_iconst (v := nI 1) hx hb dX4_visit_11 (by decide) ?_
  refine lv_isub hx hb dX4_visit_12 ?_
  refine xcRi (va_runS (As := [.int (x), .int (nI 0), .int ((nI (bc S)) - (nI 1))]) (rest := []) ⟨hx, hb, hml, hown, hts⟩ (c_X4_outside l D cA e0 A s.heap x (nI 0) ((nI (bc S)) - (nI 1))) ⟨(callB_of 3 hts gi_X4_outside rfl rfl rfl (hts _ q_ini_X4) (hts _ q_ml_X4_37) hd_X4_outside ⟨Nat.le_of_ble_eq_true rfl, Nat.le_of_ble_eq_true rfl⟩), hts _ q_st_X4_outside⟩ (xpS hE hS) rfl rfl hl.1 rfl (lv_room (Nat.le_of_ble_eq_true rfl)) dX4_visit_13 ⟨Nat.le_of_ble_eq_true rfl, Nat.le_of_ble_eq_true rfl⟩) ?_
  refine lv_if_eq (tgt := 29) hx hb dX4_visit_16 (by decide) (fun c16 => ?_) (fun c16 => ?_)
  · have hb8 := bc_le S hSt
    obtain ⟨x0, hx0, rfl⟩ := (ou_m (by omega)).mp c16
    refine lv_iconst (v := (-1)) hx hb dX4_visit_29 (by decide) ?_
    refine lv_istore_n (lv' := [(3, .int ((-1))), (0, .ref (ad 0 0)), (1, .int (nI (S))), (2, .int (nI (x0)))]) hx hb dX4_visit_30 rfl hl (by decide) rfl (fun ls hl => ?_)
    refine lv_iload_n hx hb dX4_visit_31 rfl (lv_at hl 2 rfl) ?_
    refine lv_istore (lv' := [(4, .int (nI (S))), (3, .int ((-1))), (0, .ref (ad 0 0)), (1, .int (nI (S))), (2, .int (nI (x0)))]) hx hb dX4_visit_32 hl (by decide) rfl (fun ls hl => ?_)
    refine lv_iconst (v := nI 0) hx hb dX4_visit_34 (by decide) ?_
    refine lv_istore (lv' := [(5, .int (nI 0)), (4, .int (nI (S))), (3, .int ((-1))), (0, .ref (ad 0 0)), (1, .int (nI (S))), (2, .int (nI (x0)))]) hx hb dX4_visit_35 hl (by decide) rfl (fun ls hl => ?_)
    have LOOP37 : ∀ (n37 : Nat) (k : Nat) (hv : Int32) (ls : Array Slot), (k ≤ x0 + 1) → (isPl hv (vs (wy g) S k).2) → (0 < k → hv = nI (vs (wy g) S k).2) → (x0 + 1 - k) < n37 → lv_has ls 6 [(3, .int (hv)), (4, .int (nI ((vs (wy g) S k).1))), (5, .int (nI (k))), (0, .ref (ad 0 0)), (2, .int (nI (x0)))] → W p l e (headSpec w_X4_visit ({ frames := 7, cells := 2, slots := 12, locals := 121 } : Room)).room s m ([.ref (ad 0 0), .int ((nI S)), .int ((nI x0))] : List Value).toArray below meth c s.heap locs (0 + 1) (0 + 6) (vx_MQ below (xQi (fun r h => h = s.heap ∧ (okT (N 0) (nI S) ∧ okV (nI S) (nI x0)) ∧ r = nI (vs (wy g) (cl (nI S)) (cl (nI x0) + 1)).2) A) (xX (fun E => (E = xIAE ∧ ¬ okT (N 0) (nI S)) ∨ (E = xIOB ∧ okT (N 0) (nI S) ∧ ¬ okV (nI S) (nI x0)))) ([.ref (ad 0 0), .int ((nI S)), .int ((nI x0))] : List Value).toArray s 2 12 (A)) (F0 m 37 ls []) := by
      intro n37
      induction n37 with
      | zero => intro k hv ls hk hpl hlast hmeas hl; exact absurd hmeas (Nat.not_lt_zero _)
      | succ n37 ih37 =>
        intro k hv ls hk hpl hlast hmeas hl
        refine lv_iload hx hb dX4_visit_37 (lv_at hl 2 rfl) ?_
        refine lv_iload_n hx hb dX4_visit_39 rfl (lv_at hl 4 rfl) ?_
        refine lv_icmp_gt (tgt := 68) hx hb dX4_visit_40 (by decide) (fun c40 => ?_) (fun c40 => ?_)
        · have c40 : x0 < k := (nI_ltI (a := x0) (b := k) (by omega) (by omega)).mp c40
          have hk9 : k = x0 + 1 := by omega
          subst hk9
          refine lv_iload_n hx hb dX4_visit_68 rfl (lv_at hl 0 rfl) ?_
          refine vx_ret ?_
          have hpost := (⟨rfl, ⟨⟨S, hS2, rfl⟩, x0, by rw [cl_nI (n := S) (by omega)]; exact hx0, rfl⟩, by rw [cl_nI (n := S) (by omega), cl_nI (n := x0) (by omega)]; exact hlast (by omega)⟩ : s.heap = s.heap ∧ (okT (N 0) (nI S) ∧ okV (nI S) (nI x0)) ∧ hv = nI (vs (wy g) (cl (nI S)) (cl (nI x0) + 1)).2)
          refine W.widen (k := 2) (n := 12) (by omega) (by omega) ?_
          exact W.iret (v := hv) hx hb hr (fun t ht _ => ⟨⟨hv, s.heap, rfl, hpost, ht⟩, hS.F ht⟩) hS.2.2 dX4_visit_69
        · have c40 : ¬ (x0 < k) := fun z => c40 ((nI_ltI (a := x0) (b := k) (by omega) (by omega)).mpr z)
          obtain ⟨v1, v2, v3, v4⟩ := vs_next (wy g) (k := k) hA.n8 hS2 (by omega)
          have hn8 := hA.n8
          have h256 := pow256 hn8
          refine lv_aload_n hx hb dX4_visit_43 rfl (lv_at hl 3 rfl) ?_
          refine va_get (D := D) (ci := 5) (v := .ref (ad 0 3)) (C := RX4) (T := TX4) (N := 11) hx hb hts qi_X4 hown hK (xP1 (hX.main)) 0 rfl rfl 2 (by decide) (hts _ q_fl_X4_22) (fun _ h9 => h9) rfl dX4_visit_44 ?_
          refine lv_iload_n hx hb dX4_visit_47 rfl (lv_at hl 0 rfl) ?_
          refine lv_iload hx hb dX4_visit_48 (lv_at hl 1 rfl) ?_
          refine xcRi (va_runV (As := [.int (hv), .int (nI ((vs (wy g) S k).1))]) (rest := []) ⟨hx, hb, hml, hown, hts⟩ (c_X2_nextStop l D cA e0 A s.heap ad g tt N hX hv (vs (wy g) S k).2 (vs (wy g) S k).1 hpl (by omega) (hW _ v1)) ⟨(callB_of 2 hts gi_X2_nextStop rfl rfl rfl (hts _ q_ini_X2) (hts _ q_ml_X4_168) hd_X2_nextStop ⟨Nat.le_of_ble_eq_true rfl, Nat.le_of_ble_eq_true rfl⟩), hts _ q_im_X2_nextStop, hts _ q_sel_X2_X2_nextStop⟩ (xpV hE hS (hX.roads) rfl) rfl rfl hl.1 rfl (lv_room (Nat.le_of_ble_eq_true rfl)) dX4_visit_50 ⟨Nat.le_of_ble_eq_true rfl, Nat.le_of_ble_eq_true rfl⟩) ?_
          refine xtop (show (amN (fun m => wy g (vs (wy g) S k).2 m + tw (wy g) ((vs (wy g) S k).1 - 2 ^ m) m) (vs (wy g) S k).1 8) = nI ((vs (wy g) S (k + 1)).2) from amN_nx (wy g) _ (by omega) v2) ?_
          refine lv_istore_n (lv' := [(3, .int (nI ((vs (wy g) S (k + 1)).2))), (4, .int (nI ((vs (wy g) S k).1))), (5, .int (nI (k))), (0, .ref (ad 0 0)), (2, .int (nI (x0)))]) hx hb dX4_visit_53 rfl hl (by decide) rfl (fun ls hl => ?_)
          refine lv_iload hx hb dX4_visit_54 (lv_at hl 1 rfl) ?_
          refine lv_iload_n hx hb dX4_visit_56 rfl (lv_at hl 0 rfl) ?_
          refine xcRi (va_runS (As := [.int (nI ((vs (wy g) S k).1)), .int (nI ((vs (wy g) S (k + 1)).2))]) (rest := []) ⟨hx, hb, hml, hown, hts⟩ (c_X4_without l D cA e0 A s.heap (vs (wy g) S k).1 (vs (wy g) S (k + 1)).2 (by omega) (by omega) v4) ⟨(callB_of 2 hts gi_X4_without rfl rfl rfl (hts _ q_ini_X4) (hts _ q_ml_X4_171) hd_X4_without ⟨Nat.le_of_ble_eq_true rfl, Nat.le_of_ble_eq_true rfl⟩), hts _ q_st_X4_without⟩ (xpS hE hS) rfl rfl hl.1 rfl (lv_room (Nat.le_of_ble_eq_true rfl)) dX4_visit_57 ⟨Nat.le_of_ble_eq_true rfl, Nat.le_of_ble_eq_true rfl⟩) ?_
          refine lv_istore (lv' := [(4, .int (nI ((vs (wy g) S (k + 1)).1))), (3, .int (nI ((vs (wy g) S (k + 1)).2))), (5, .int (nI (k))), (0, .ref (ad 0 0)), (2, .int (nI (x0)))]) hx hb dX4_visit_60 hl (by decide) rfl (fun ls hl => ?_)
          refine lv_iinc (v := nI (k + 1)) (lv' := [(5, .int (nI (k + 1))), (4, .int (nI ((vs (wy g) S (k + 1)).1))), (3, .int (nI ((vs (wy g) S (k + 1)).2))), (0, .ref (ad 0 0)), (2, .int (nI (x0)))]) hx hb dX4_visit_62 hl (k := 2) rfl (nI_add k 1) (by decide) rfl (fun ls hl => ?_)
          refine lv_goto (tgt := 37) hx hb dX4_visit_65 (by decide) ?_
          exact ih37 (k + 1) (nI (vs (wy g) S (k + 1)).2) _ (by omega) (isPl_m (by omega)) (fun _ => rfl) (by omega) (lv_sub hl [2, 1, 0, 3, 4] rfl)
    exact LOOP37 _ 0 (-1) _ (by omega) isPl_d (fun z => absurd z (Nat.lt_irrefl 0)) (Nat.lt_succ_self _) (lv_sub hl [2, 1, 0, 3, 5] rfl)
  · exact xthrow (cls := xIOB) (text := "there is no such place in the order") hx hb hl9 hE hS hown (by decide +kernel) q_cl_X4_73 q_ini_java_lang_IndexOutOfBoundsException xth_IOB xgd_IOB (by decide) (hl.1.trans hml.symm) dX4_visit_19 dX4_visit_22 dX4_visit_23 dX4_visit_25 dX4_visit_28 hxt (Nat.le_of_ble_eq_true rfl) (Nat.le_of_ble_eq_true rfl) (Nat.le_of_ble_eq_true rfl) (Nat.le_of_ble_eq_true rfl) hlocks (Or.inr ⟨rfl, ⟨S, hS2, rfl⟩, fun ⟨j, h1, h2⟩ => c16 ((ou_m (by have := bc_le S hSt; omega)).mpr ⟨j, by rw [cl_nI (n := S) (by omega)] at h1; exact h1, h2⟩)⟩) (Nat.le_of_ble_eq_true rfl) (Nat.le_of_ble_eq_true rfl)
set_option maxHeartbeats 4000000 in
set_option maxRecDepth 100000 in
/-- total(x) -/
theorem c_X4_total (l : Launch) (D : va_G) (cA : Nat → ClassId) (e0 : Nat) (A : Nat → Prop) (H0 : Heap) (ad : Nat → Nat → Nat) (g : Nat → Nat → Int32) (tt : Nat → Int64) (N : Nat → Nat) (hX : xW D cA ad g tt N H0) (x : Int32) (hl9 : l.stackTraces = false) : vx_Met l yX4_total w_X4_total ({ frames := 6, cells := 1, slots := 6, locals := 100 } : Room) (xPc D cA e0 A H0 [.ref (ad 0 0), .int (x)]) (xQl (fun r h => h = H0 ∧ okK 3 x ∧ r = tt (cl x)) A) (xX (fun E => E = xIOB ∧ ¬ okK 3 x)) 1 6 (A) := by
  refine vx_ofW (cc := cX4_total) (maxL := 2) (ret := (some .long)) (by decide) rfl ?_
  intro p e s m args below meth c s₁ B hml hxt hv
  obtain ⟨rfl, hH, hE⟩ := hv
  subst hH
  have hx := B.exec
  have hb := B.bytes
  have hr := B.returns
  have hts := hE.1.all ([.ref (ad 0 0), .int (x)] : List Value).toArray
  have hown : s.vm.findClass RX4 = some m.cls := findClass_of_methodNamed B.named
  have hlocks := B.notSynchronized
  have hK := hE.2.1
  have hS : va_S A s.heap s.heap [] := va_S.rf
  have hl := lv_entry ([.ref (ad 0 0), .int (x)]) (n := 2) (Nat.le_of_ble_eq_true rfl)
  rw [lg_entry_eq]
  generalize (lg_sl ([.ref (ad 0 0), .int (x)]) ++ List.replicate (2 - (lg_sl ([.ref (ad 0 0), .int (x)])).length) Slot.unset).toArray = ls at hl ⊢
  have hl : lv_has ls 2 [(0, .ref (ad 0 0)), (1, .int (x))] := hl
  refine lv_iload_n hx hb dX4_total_0 rfl (lv_at hl 1 rfl) ?_
  refine lv_iconst (v := nI 0) hx hb dX4_total_1 (by decide) ?_
  refine lv_iconst (v := nI 3) hx hb dX4_total_2 (by decide) ?_
  refine xcRi (va_runS (As := [.int (x), .int (nI 0), .int (nI 3)]) (rest := []) ⟨hx, hb, hml, hown, hts⟩ (c_X4_outside l D cA e0 A s.heap x (nI 0) (nI 3)) ⟨(callB_of 3 hts gi_X4_outside rfl rfl rfl (hts _ q_ini_X4) (hts _ q_ml_X4_37) hd_X4_outside ⟨Nat.le_of_ble_eq_true rfl, Nat.le_of_ble_eq_true rfl⟩), hts _ q_st_X4_outside⟩ (xpS hE hS) rfl rfl hl.1 rfl (lv_room (Nat.le_of_ble_eq_true rfl)) dX4_total_3 ⟨Nat.le_of_ble_eq_true rfl, Nat.le_of_ble_eq_true rfl⟩) ?_
  refine lv_if_eq (tgt := 19) hx hb dX4_total_6 (by decide) (fun c6 => ?_) (fun c6 => ?_)
  · obtain ⟨w, hw, rfl⟩ := (ou_k (by omega)).mp c6
    refine lv_iload_n hx hb dX4_total_19 rfl (lv_at hl 1 rfl) ?_
    by_cases hw0 : w = 0
    · subst hw0
      refine lv_tableIn (tgt := 48) (off := 28) hx hb dX4_total_20 (by decide) (by decide) (by decide) (by decide) ?_
      refine lv_aload_n hx hb dX4_total_48 rfl (lv_at hl 0 rfl) ?_
      refine va_get (D := D) (ci := 5) (v := .long (tt 0)) (C := RX4) (T := TX4) (N := 11) hx hb hts qi_X4 hown hK (xP1 (hX.main)) 0 rfl rfl 7 (by decide) (hts _ q_fl_X4_209) (fun _ h9 => h9) rfl dX4_total_49 ?_
      refine vx_ret ?_
      have hpost := (⟨rfl, ⟨0, by omega, rfl⟩, rfl⟩ : s.heap = s.heap ∧ okK 3 (nI 0) ∧ tt 0 = tt (cl (nI 0)))
      refine W.widen (k := 1) (n := 6) (by omega) (by omega) ?_
      exact W.lret (v := (tt 0)) hx hb hr (fun t ht _ => ⟨⟨(tt 0), s.heap, rfl, hpost, ht⟩, hS.F ht⟩) hS.2.2 dX4_total_52
    by_cases hw1 : w = 1
    · subst hw1
      refine lv_tableIn (tgt := 53) (off := 33) hx hb dX4_total_20 (by decide) (by decide) (by decide) (by decide) ?_
      refine lv_aload_n hx hb dX4_total_53 rfl (lv_at hl 0 rfl) ?_
      refine va_get (D := D) (ci := 5) (v := .long (tt 1)) (C := RX4) (T := TX4) (N := 11) hx hb hts qi_X4 hown hK (xP1 (hX.main)) 0 rfl rfl 8 (by decide) (hts _ q_fl_X4_189) (fun _ h9 => h9) rfl dX4_total_54 ?_
      refine vx_ret ?_
      have hpost := (⟨rfl, ⟨1, by omega, rfl⟩, rfl⟩ : s.heap = s.heap ∧ okK 3 (nI 1) ∧ tt 1 = tt (cl (nI 1)))
      refine W.widen (k := 1) (n := 6) (by omega) (by omega) ?_
      exact W.lret (v := (tt 1)) hx hb hr (fun t ht _ => ⟨⟨(tt 1), s.heap, rfl, hpost, ht⟩, hS.F ht⟩) hS.2.2 dX4_total_57
    by_cases hw2 : w = 2
    · subst hw2
      refine lv_tableIn (tgt := 58) (off := 38) hx hb dX4_total_20 (by decide) (by decide) (by decide) (by decide) ?_
      refine lv_aload_n hx hb dX4_total_58 rfl (lv_at hl 0 rfl) ?_
      refine va_get (D := D) (ci := 5) (v := .long (tt 2)) (C := RX4) (T := TX4) (N := 11) hx hb hts qi_X4 hown hK (xP1 (hX.main)) 0 rfl rfl 9 (by decide) (hts _ q_fl_X4_212) (fun _ h9 => h9) rfl dX4_total_59 ?_
      refine vx_ret ?_
      have hpost := (⟨rfl, ⟨2, by omega, rfl⟩, rfl⟩ : s.heap = s.heap ∧ okK 3 (nI 2) ∧ tt 2 = tt (cl (nI 2)))
      refine W.widen (k := 1) (n := 6) (by omega) (by omega) ?_
      exact W.lret (v := (tt 2)) hx hb hr (fun t ht _ => ⟨⟨(tt 2), s.heap, rfl, hpost, ht⟩, hS.F ht⟩) hS.2.2 dX4_total_62
    refine lv_tableOut (tgt := 63) hx hb dX4_total_20 (Or.inr (by rw [nI_toInt (by omega)]; omega)) (by decide) ?_
    refine lv_aload_n hx hb dX4_total_63 rfl (lv_at hl 0 rfl) ?_
    refine va_get (D := D) (ci := 5) (v := .long (tt 3)) (C := RX4) (T := TX4) (N := 11) hx hb hts qi_X4 hown hK (xP1 (hX.main)) 0 rfl rfl 10 (by decide) (hts _ q_fl_X4_193) (fun _ h9 => h9) rfl dX4_total_64 ?_
    refine vx_ret ?_
    have hpost := (⟨rfl, ⟨w, by omega, rfl⟩, by rw [cl_nI (n := w) (by omega), show w = 3 by omega]⟩ : s.heap = s.heap ∧ okK 3 (nI w) ∧ tt 3 = tt (cl (nI w)))
    refine W.widen (k := 1) (n := 6) (by omega) (by omega) ?_
    exact W.lret (v := (tt 3)) hx hb hr (fun t ht _ => ⟨⟨(tt 3), s.heap, rfl, hpost, ht⟩, hS.F ht⟩) hS.2.2 dX4_total_67
  · exact xthrow (cls := xIOB) (text := "what is not 0 to 3") hx hb hl9 hE hS hown (by decide +kernel) q_cl_X4_73 q_ini_java_lang_IndexOutOfBoundsException xth_IOB xgd_IOB (by decide) (hl.1.trans hml.symm) dX4_total_9 dX4_total_12 dX4_total_13 dX4_total_15 dX4_total_18 hxt (Nat.le_of_ble_eq_true rfl) (Nat.le_of_ble_eq_true rfl) (Nat.le_of_ble_eq_true rfl) (Nat.le_of_ble_eq_true rfl) hlocks (⟨rfl, fun z => c6 ((ou_k (by omega)).mpr z)⟩) (Nat.le_of_ble_eq_true rfl) (Nat.le_of_ble_eq_true rfl)
