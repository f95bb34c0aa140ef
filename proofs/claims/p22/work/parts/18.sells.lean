/-! The class: slots and ways set, selling, filling (by p18.py) -/
set_option maxHeartbeats 4000000 in
set_option maxRecDepth 100000 in
/-- setSlot(v, w, x, y) -/
theorem c_X4_setSlot (l : Launch) (D : va_G) (cA : Nat → ClassId) (e0 : Nat) (A : Nat → Prop) (H0 : Heap) (ad : Nat → Nat → Nat) (g : Nat → Nat → Int32) (tt : Nat → Int64) (N : Nat → Nat) (hX : xW D cA ad g tt N H0) (v w x y : Int32) (hA : xA A e0 ad N) (hl9 : l.stackTraces = false) : vx_Met l yX4_setSlot w_X4_setSlot ({ frames := 8, cells := 4, slots := 24, locals := 144 } : Room) (xPc D cA e0 A H0 [.ref (ad 0 0), .int (v), .int (w), .int (x), .int (y)]) (xQi (fun r h => (okS (N 0) v w ∧ okR 0 30 x ∧ okR 0 20 y) ∧ r = g 4 (6 * cl v + cl w) ∧ xW D cA ad (ssF g (6 * cl v + cl w) x y) tt N h) A) (xX (fun E => (E = xIOB ∧ ¬ okS (N 0) v w) ∨ (E = xIAE ∧ okS (N 0) v w ∧ ¬ (okR 0 30 x ∧ okR 0 20 y)))) 4 24 (A) := by
  refine vx_ofW (cc := cX4_setSlot) (maxL := 7) (ret := (some .int)) (by decide) rfl ?_
  intro p e s m args below meth c s₁ B hml hxt hv
  obtain ⟨rfl, hH, hE⟩ := hv
  subst hH
  have hx := B.exec
  have hb := B.bytes
  have hr := B.returns
  have hts := hE.1.all ([.ref (ad 0 0), .int (v), .int (w), .int (x), .int (y)] : List Value).toArray
  have hown : s.vm.findClass RX4 = some m.cls := findClass_of_methodNamed B.named
  have hlocks := B.notSynchronized
  have hK := hE.2.1
  have hS : va_S A s.heap s.heap [] := va_S.rf
  have hl := lv_entry ([.ref (ad 0 0), .int (v), .int (w), .int (x), .int (y)]) (n := 7) (Nat.le_of_ble_eq_true rfl)
  rw [lg_entry_eq]
  generalize (lg_sl ([.ref (ad 0 0), .int (v), .int (w), .int (x), .int (y)]) ++ List.replicate (7 - (lg_sl ([.ref (ad 0 0), .int (v), .int (w), .int (x), .int (y)])).length) Slot.unset).toArray = ls at hl ⊢
  have hl : lv_has ls 7 [(0, .ref (ad 0 0)), (1, .int (v)), (2, .int (w)), (3, .int (x)), (4, .int (y))] := hl
  have hn8 := hA.n8
  refine lv_aload_n hx hb dX4_setSlot_0 rfl (lv_at hl 0 rfl) ?_
  refine lv_iload_n hx hb dX4_setSlot_1 rfl (lv_at hl 1 rfl) ?_
  refine lv_iload_n hx hb dX4_setSlot_2 rfl (lv_at hl 2 rfl) ?_
  refine xcXr (vx_runV (As := [.int (v), .int (w)]) (rest := []) ⟨hx, hb, hml, hown, hts⟩ (c_X4_slotAt l D cA e0 A s.heap ad g tt N hX v w hA hl9) ⟨(callB_of 2 hts gi_X4_slotAt rfl rfl rfl (hts _ q_ini_X4) (hts _ q_ml_X4_90) hd_X4_slotAt ⟨Nat.le_of_ble_eq_true rfl, Nat.le_of_ble_eq_true rfl⟩), hts _ q_im_X4_slotAt, hts _ q_sel_X4_X4_slotAt⟩ (xpV hE hS (hX.main) rfl) rfl rfl hl.1 rfl (lv_room (Nat.le_of_ble_eq_true rfl)) dX4_setSlot_3 ⟨Nat.le_of_ble_eq_true rfl, Nat.le_of_ble_eq_true rfl⟩) hS (fun q h => h) (fun E9 ce9 q9 H9 locs9 hPX9 hz9 hk9 hS9 hc9 hv9 hcl9 => ?_) (fun r9_1 H1 locs hP9 hz9 hk9 hS => ?_)
  · exact vx_out (fun x h => (hxt x h).elim) hlocks hc9 hv9 hcl9 (fun t ht _ => ⟨(), trivial, Or.inl hPX9, by rw [ht]; exact hz9, fun q hq _ => by rw [ht]; exact hk9 q hq⟩) hS9.2.2 (Nat.le_of_ble_eq_true rfl) (Nat.le_of_ble_eq_true rfl)
  obtain ⟨rfl, i0, j0, hi0, hj0, rfl, rfl, rfl⟩ := hP9
  refine lv_astore (lv' := [(5, .ref (ad 3 (6 * i0 + j0))), (0, .ref (ad 0 0)), (1, .int (nI (i0))), (2, .int (nI (j0))), (3, .int (x)), (4, .int (y))]) hx hb dX4_setSlot_6 hl (by decide) rfl (fun ls hl => ?_)
  refine lv_iload_n hx hb dX4_setSlot_8 rfl (lv_at hl 4 rfl) ?_
  refine lv_iconst (v := nI 0) hx hb dX4_setSlot_9 (by decide) ?_
  refine lv_bipush (v := nI 30) hx hb dX4_setSlot_10 (by decide) ?_
  refine xcRi (va_runS (As := [.int (x), .int (nI 0), .int (nI 30)]) (rest := []) ⟨hx, hb, hml, hown, hts⟩ (c_X4_outside l D cA e0 A s.heap x (nI 0) (nI 30)) ⟨(callB_of 3 hts gi_X4_outside rfl rfl rfl (hts _ q_ini_X4) (hts _ q_ml_X4_37) hd_X4_outside ⟨Nat.le_of_ble_eq_true rfl, Nat.le_of_ble_eq_true rfl⟩), hts _ q_st_X4_outside⟩ (xpS hE hS) rfl rfl hl.1 rfl (lv_room (Nat.le_of_ble_eq_true rfl)) dX4_setSlot_12 ⟨Nat.le_of_ble_eq_true rfl, Nat.le_of_ble_eq_true rfl⟩) ?_
  refine lv_if_eq (tgt := 28) hx hb dX4_setSlot_15 (by decide) (fun c15 => ?_) (fun c15 => ?_)
  · refine lv_iload hx hb dX4_setSlot_28 (lv_at hl 5 rfl) ?_
    refine lv_iconst (v := nI 0) hx hb dX4_setSlot_30 (by decide) ?_
    refine lv_bipush (v := nI 20) hx hb dX4_setSlot_31 (by decide) ?_
    refine xcRi (va_runS (As := [.int (y), .int (nI 0), .int (nI 20)]) (rest := []) ⟨hx, hb, hml, hown, hts⟩ (c_X4_outside l D cA e0 A s.heap y (nI 0) (nI 20)) ⟨(callB_of 3 hts gi_X4_outside rfl rfl rfl (hts _ q_ini_X4) (hts _ q_ml_X4_37) hd_X4_outside ⟨Nat.le_of_ble_eq_true rfl, Nat.le_of_ble_eq_true rfl⟩), hts _ q_st_X4_outside⟩ (xpS hE hS) rfl rfl hl.1 rfl (lv_room (Nat.le_of_ble_eq_true rfl)) dX4_setSlot_33 ⟨Nat.le_of_ble_eq_true rfl, Nat.le_of_ble_eq_true rfl⟩) ?_
    refine lv_if_eq (tgt := 49) hx hb dX4_setSlot_36 (by decide) (fun c36 => ?_) (fun c36 => ?_)
    · refine lv_aload hx hb dX4_setSlot_49 (lv_at hl 0 rfl) ?_
      refine va_get (D := D) (ci := 4) (v := .int (g 4 (6 * i0 + j0))) (C := RX3) (T := TX3) (N := 6) hx hb hts qi_X3 hown hK (xP1 (hX.slot (show 6 * i0 + j0 < 6 * N 0 by omega))) 0 rfl rfl 0 (by decide) (hts _ q_fl_X4_98) (fun _ h9 => h9) rfl dX4_setSlot_51 ?_
      refine lv_istore (lv' := [(6, .int (g 4 (6 * i0 + j0))), (5, .ref (ad 3 (6 * i0 + j0))), (0, .ref (ad 0 0)), (1, .int (nI (i0))), (2, .int (nI (j0))), (3, .int (x)), (4, .int (y))]) hx hb dX4_setSlot_54 hl (by decide) rfl (fun ls hl => ?_)
      refine lv_aload hx hb dX4_setSlot_56 (lv_at hl 1 rfl) ?_
      refine lv_iload_n hx hb dX4_setSlot_58 rfl (lv_at hl 5 rfl) ?_
      refine xput (D := D) (ci := 4) (v := .int (x)) (C := RX3) (T := TX3) (N := 6) hx hb hts qi_X3 tyX3 tyX3_ok nmX3 hown hK hS (hX.slot (show 6 * i0 + j0 < 6 * N 0 by omega)) (hA.a (xV3 (show 6 * i0 + j0 < 6 * N 0 by omega))) rfl 0 (by decide) (hts _ q_fl_X4_98) (fun _ h9 => h9) rfl (tyX3_ok 0 (by decide)) rfl rfl (Nat.le_of_ble_eq_true rfl) dX4_setSlot_59 (fun H2 locs hU hS => ?_)
      have hX3 := hX.ps4 hA (show 6 * i0 + j0 < 6 * N 0 by omega) hU
      obtain ⟨g3, hg3⟩ : ∃ z, z = va_up g 4 (upd (g 4) (6 * i0 + j0) (x)) := ⟨_, rfl⟩
      rw [← hg3] at hX3
      refine lv_aload hx hb dX4_setSlot_62 (lv_at hl 1 rfl) ?_
      refine lv_aload hx hb dX4_setSlot_64 (lv_at hl 1 rfl) ?_
      refine va_get (D := D) (ci := 4) (v := .int (g3 5 (6 * i0 + j0))) (C := RX3) (T := TX3) (N := 6) hx hb hts qi_X3 hown hK (xP1 (hX3.slot (show 6 * i0 + j0 < 6 * N 0 by omega))) 0 rfl rfl 1 (by decide) (hts _ q_fl_X4_104) (fun _ h9 => h9) rfl dX4_setSlot_66 ?_
      refine lv_iload_n hx hb dX4_setSlot_69 rfl (lv_at hl 5 rfl) ?_
      refine va_mmin hx hb (hml.trans hl.1.symm) hown (hts _ q_ml_X4_107) (hts _ q_st_J9_min_7cf53) (hts _ q_ini_J9) (hts _ q_co_min) (Nat.le_of_ble_eq_true rfl) (Nat.le_of_ble_eq_true rfl) (Nat.le_of_ble_eq_true rfl) (Nat.le_of_ble_eq_true rfl) dX4_setSlot_70 ?_
      refine xtop (show (if x < g3 5 (6 * i0 + j0) then x else g3 5 (6 * i0 + j0)) = mnI (g3 5 (6 * i0 + j0)) (x) from rfl) ?_
      refine xput (D := D) (ci := 4) (v := .int (mnI (g3 5 (6 * i0 + j0)) (x))) (C := RX3) (T := TX3) (N := 6) hx hb hts qi_X3 tyX3 tyX3_ok nmX3 hown hK hS (hX3.slot (show 6 * i0 + j0 < 6 * N 0 by omega)) (hA.a (xV3 (show 6 * i0 + j0 < 6 * N 0 by omega))) rfl 1 (by decide) (hts _ q_fl_X4_104) (fun _ h9 => h9) rfl (tyX3_ok 1 (by decide)) rfl rfl (Nat.le_of_ble_eq_true rfl) dX4_setSlot_73 (fun H4 locs hU hS => ?_)
      have hX5 := hX3.ps5 hA (show 6 * i0 + j0 < 6 * N 0 by omega) hU
      obtain ⟨g5, hg5⟩ : ∃ z, z = va_up g3 5 (upd (g3 5) (6 * i0 + j0) (mnI (g3 5 (6 * i0 + j0)) (x))) := ⟨_, rfl⟩
      rw [← hg5] at hX5
      refine lv_aload hx hb dX4_setSlot_76 (lv_at hl 1 rfl) ?_
      refine lv_iload hx hb dX4_setSlot_78 (lv_at hl 6 rfl) ?_
      refine xput (D := D) (ci := 4) (v := .int (y)) (C := RX3) (T := TX3) (N := 6) hx hb hts qi_X3 tyX3 tyX3_ok nmX3 hown hK hS (hX5.slot (show 6 * i0 + j0 < 6 * N 0 by omega)) (hA.a (xV3 (show 6 * i0 + j0 < 6 * N 0 by omega))) rfl 3 (by decide) (hts _ q_fl_X4_112) (fun _ h9 => h9) rfl (tyX3_ok 3 (by decide)) rfl rfl (Nat.le_of_ble_eq_true rfl) dX4_setSlot_80 (fun H6 locs hU hS => ?_)
      have hX7 := hX5.ps7 hA (show 6 * i0 + j0 < 6 * N 0 by omega) hU
      obtain ⟨g7, hg7⟩ : ∃ z, z = va_up g5 7 (upd (g5 7) (6 * i0 + j0) (y)) := ⟨_, rfl⟩
      rw [← hg7] at hX7
      refine lv_iload hx hb dX4_setSlot_83 (lv_at hl 0 rfl) ?_
      refine vx_ret ?_
      have hpost := (show (okS (N 0) (nI i0) (nI j0) ∧ okR 0 30 x ∧ okR 0 20 y) ∧ g 4 (6 * i0 + j0) = g 4 (6 * cl (nI i0) + cl (nI j0)) ∧ xW D cA ad (ssF g (6 * cl (nI i0) + cl (nI j0)) x y) tt N H6 from by
          rw [cl_nI (n := i0) (by omega), cl_nI (n := j0) (by omega)]
          refine ⟨⟨⟨i0, j0, hi0, hj0, rfl, rfl⟩, (ou_r (a := 0) (b := 30) (by omega) (by omega)).mp c15, (ou_r (a := 0) (b := 20) (by omega) (by omega)).mp c36⟩, rfl, ?_⟩
          have e : g7 = ssF g (6 * i0 + j0) x y := by rw [hg7, hg5, hg3]; rfl
          rw [← e]
          exact hX7)
      refine W.widen (k := 4) (n := 24) (by omega) (by omega) ?_
      exact W.iret (v := (g 4 (6 * i0 + j0))) hx hb hr (fun t ht _ => ⟨⟨(g 4 (6 * i0 + j0)), H6, rfl, hpost, ht⟩, hS.F ht⟩) hS.2.2 dX4_setSlot_85
    · exact xthrow (cls := xIAE) (text := "demand is not 0 to 20") hx hb hl9 hE hS hown (by decide +kernel) q_cl_X4_41 q_ini_java_lang_IllegalArgumentException xth_IAE xgd_IAE (by decide) (hl.1.trans hml.symm) dX4_setSlot_39 dX4_setSlot_42 dX4_setSlot_43 dX4_setSlot_45 dX4_setSlot_48 hxt (Nat.le_of_ble_eq_true rfl) (Nat.le_of_ble_eq_true rfl) (Nat.le_of_ble_eq_true rfl) (Nat.le_of_ble_eq_true rfl) hlocks (Or.inr ⟨rfl, ⟨i0, j0, hi0, hj0, rfl, rfl⟩, fun z => c36 ((ou_r (a := 0) (b := 20) (by omega) (by omega)).mpr z.2)⟩) (Nat.le_of_ble_eq_true rfl) (Nat.le_of_ble_eq_true rfl)
  · exact xthrow (cls := xIAE) (text := "capacity is not 0 to 30") hx hb hl9 hE hS hown (by decide +kernel) q_cl_X4_41 q_ini_java_lang_IllegalArgumentException xth_IAE xgd_IAE (by decide) (hl.1.trans hml.symm) dX4_setSlot_18 dX4_setSlot_21 dX4_setSlot_22 dX4_setSlot_24 dX4_setSlot_27 hxt (Nat.le_of_ble_eq_true rfl) (Nat.le_of_ble_eq_true rfl) (Nat.le_of_ble_eq_true rfl) (Nat.le_of_ble_eq_true rfl) hlocks (Or.inr ⟨rfl, ⟨i0, j0, hi0, hj0, rfl, rfl⟩, fun z => c15 ((ou_r (a := 0) (b := 30) (by omega) (by omega)).mpr z.1)⟩) (Nat.le_of_ble_eq_true rfl) (Nat.le_of_ble_eq_true rfl)
set_option maxHeartbeats 4000000 in
set_option maxRecDepth 100000 in
/-- setMinutes(a, b, x) -/
theorem c_X4_setMinutes (l : Launch) (D : va_G) (cA : Nat → ClassId) (e0 : Nat) (A : Nat → Prop) (H0 : Heap) (ad : Nat → Nat → Nat) (g : Nat → Nat → Int32) (tt : Nat → Int64) (N : Nat → Nat) (hX : xW D cA ad g tt N H0) (a b x : Int32) (hA : xA A e0 ad N) (hl9 : l.stackTraces = false) : vx_Met l yX4_setMinutes w_X4_setMinutes ({ frames := 6, cells := 1, slots := 6, locals := 117 } : Room) (xPc D cA e0 A H0 [.ref (ad 0 0), .int (a), .int (b), .int (x)]) (xQi (fun r h => ((okP (N 0) a ∧ okP (N 0) b) ∧ a ≠ b ∧ okR 1 200 x) ∧ r = wy g (plN a) (plN b) ∧ ∃ g2, xW D cA ad g2 tt N h ∧ (∀ k, k ≠ 17 → g2 k = va_up g 3 (swF (g 3) (plN a) (plN b) x) k) ∧ hwAll g2 (N 0)) A) (xX (fun E => (E = xIOB ∧ ¬ (okP (N 0) a ∧ okP (N 0) b)) ∨ (E = xIAE ∧ (okP (N 0) a ∧ okP (N 0) b) ∧ ¬ (a ≠ b ∧ okR 1 200 x)))) 1 6 (A) := by
  refine vx_ofW (cc := cX4_setMinutes) (maxL := 5) (ret := (some .int)) (by decide) rfl ?_
  intro p e s m args below meth c s₁ B hml hxt hv
  obtain ⟨rfl, hH, hE⟩ := hv
  subst hH
  have hx := B.exec
  have hb := B.bytes
  have hr := B.returns
  have hts := hE.1.all ([.ref (ad 0 0), .int (a), .int (b), .int (x)] : List Value).toArray
  have hown : s.vm.findClass RX4 = some m.cls := findClass_of_methodNamed B.named
  have hlocks := B.notSynchronized
  have hK := hE.2.1
  have hS : va_S A s.heap s.heap [] := va_S.rf
  have hl := lv_entry ([.ref (ad 0 0), .int (a), .int (b), .int (x)]) (n := 5) (Nat.le_of_ble_eq_true rfl)
  rw [lg_entry_eq]
  generalize (lg_sl ([.ref (ad 0 0), .int (a), .int (b), .int (x)]) ++ List.replicate (5 - (lg_sl ([.ref (ad 0 0), .int (a), .int (b), .int (x)])).length) Slot.unset).toArray = ls at hl ⊢
  have hl : lv_has ls 5 [(0, .ref (ad 0 0)), (1, .int (a)), (2, .int (b)), (3, .int (x))] := hl
  have hn8 := hA.n8
  refine lv_aload_n hx hb dX4_setMinutes_0 rfl (lv_at hl 0 rfl) ?_
  refine lv_iload_n hx hb dX4_setMinutes_1 rfl (lv_at hl 1 rfl) ?_
  refine xcRi (va_runV (As := [.int (a)]) (rest := []) ⟨hx, hb, hml, hown, hts⟩ (c_X4_isNoPlace l D cA e0 A s.heap ad g tt N hX a) ⟨(callB_of 1 hts gi_X4_isNoPlace rfl rfl rfl (hts _ q_ini_X4) (hts _ q_ml_X4_69) hd_X4_isNoPlace ⟨Nat.le_of_ble_eq_true rfl, Nat.le_of_ble_eq_true rfl⟩), hts _ q_im_X4_isNoPlace, hts _ q_sel_X4_X4_isNoPlace⟩ (xpV hE hS (hX.main) rfl) rfl rfl hl.1 rfl (lv_room (Nat.le_of_ble_eq_true rfl)) dX4_setMinutes_2 ⟨Nat.le_of_ble_eq_true rfl, Nat.le_of_ble_eq_true rfl⟩) ?_
  refine lv_if_ne (tgt := 16) hx hb dX4_setMinutes_5 (by decide) (fun c5 => ?_) (fun c5 => ?_)
  · exact xthrow (cls := xIOB) (text := "there is no such machine") hx hb hl9 hE hS hown (by decide +kernel) q_cl_X4_73 q_ini_java_lang_IndexOutOfBoundsException xth_IOB xgd_IOB (by decide) (hl.1.trans hml.symm) dX4_setMinutes_16 dX4_setMinutes_19 dX4_setMinutes_20 dX4_setMinutes_22 dX4_setMinutes_25 hxt (Nat.le_of_ble_eq_true rfl) (Nat.le_of_ble_eq_true rfl) (Nat.le_of_ble_eq_true rfl) (Nat.le_of_ble_eq_true rfl) hlocks (Or.inl ⟨rfl, fun z => c5 ((np_iff (by omega)).mpr z.1)⟩) (Nat.le_of_ble_eq_true rfl) (Nat.le_of_ble_eq_true rfl)
  · have p5 := (np_iff (by omega)).mp c5
    refine lv_aload_n hx hb dX4_setMinutes_8 rfl (lv_at hl 0 rfl) ?_
    refine lv_iload_n hx hb dX4_setMinutes_9 rfl (lv_at hl 2 rfl) ?_
    refine xcRi (va_runV (As := [.int (b)]) (rest := []) ⟨hx, hb, hml, hown, hts⟩ (c_X4_isNoPlace l D cA e0 A s.heap ad g tt N hX b) ⟨(callB_of 1 hts gi_X4_isNoPlace rfl rfl rfl (hts _ q_ini_X4) (hts _ q_ml_X4_69) hd_X4_isNoPlace ⟨Nat.le_of_ble_eq_true rfl, Nat.le_of_ble_eq_true rfl⟩), hts _ q_im_X4_isNoPlace, hts _ q_sel_X4_X4_isNoPlace⟩ (xpV hE hS (hX.main) rfl) rfl rfl hl.1 rfl (lv_room (Nat.le_of_ble_eq_true rfl)) dX4_setMinutes_10 ⟨Nat.le_of_ble_eq_true rfl, Nat.le_of_ble_eq_true rfl⟩) ?_
    refine lv_if_eq (tgt := 26) hx hb dX4_setMinutes_13 (by decide) (fun c13 => ?_) (fun c13 => ?_)
    · have p13 := (np_iff (by omega)).mp c13
      refine lv_iload_n hx hb dX4_setMinutes_26 rfl (lv_at hl 1 rfl) ?_
      refine lv_iload_n hx hb dX4_setMinutes_27 rfl (lv_at hl 2 rfl) ?_
      refine lv_icmp_ne (tgt := 41) hx hb dX4_setMinutes_28 (by decide) (fun c28 => ?_) (fun c28 => ?_)
      · refine lv_iload_n hx hb dX4_setMinutes_41 rfl (lv_at hl 3 rfl) ?_
        refine lv_iconst (v := nI 1) hx hb dX4_setMinutes_42 (by decide) ?_
        refine lv_sipush (v := nI 200) hx hb dX4_setMinutes_43 (by decide) ?_
        refine xcRi (va_runS (As := [.int (x), .int (nI 1), .int (nI 200)]) (rest := []) ⟨hx, hb, hml, hown, hts⟩ (c_X4_outside l D cA e0 A s.heap x (nI 1) (nI 200)) ⟨(callB_of 3 hts gi_X4_outside rfl rfl rfl (hts _ q_ini_X4) (hts _ q_ml_X4_37) hd_X4_outside ⟨Nat.le_of_ble_eq_true rfl, Nat.le_of_ble_eq_true rfl⟩), hts _ q_st_X4_outside⟩ (xpS hE hS) rfl rfl hl.1 rfl (lv_room (Nat.le_of_ble_eq_true rfl)) dX4_setMinutes_46 ⟨Nat.le_of_ble_eq_true rfl, Nat.le_of_ble_eq_true rfl⟩) ?_
        refine lv_if_eq (tgt := 62) hx hb dX4_setMinutes_49 (by decide) (fun c49 => ?_) (fun c49 => ?_)
        · refine lv_aload_n hx hb dX4_setMinutes_62 rfl (lv_at hl 0 rfl) ?_
          refine va_get (D := D) (ci := 5) (v := .ref (ad 0 3)) (C := RX4) (T := TX4) (N := 11) hx hb hts qi_X4 hown hK (xP1 (hX.main)) 0 rfl rfl 2 (by decide) (hts _ q_fl_X4_22) (fun _ h9 => h9) rfl dX4_setMinutes_63 ?_
          refine lv_iload_n hx hb dX4_setMinutes_66 rfl (lv_at hl 1 rfl) ?_
          refine lv_iload_n hx hb dX4_setMinutes_67 rfl (lv_at hl 2 rfl) ?_
          refine xcRi (va_runV (As := [.int (a), .int (b)]) (rest := []) ⟨hx, hb, hml, hown, hts⟩ (c_X2_between l D cA e0 A s.heap ad g tt N hX a b (plN a) (plN b) (okP_pl hn8 p5) (okP_pl hn8 p13)) ⟨(callB_of 2 hts gi_X2_between rfl rfl rfl (hts _ q_ini_X2) (hts _ q_ml_X4_82) hd_X2_between ⟨Nat.le_of_ble_eq_true rfl, Nat.le_of_ble_eq_true rfl⟩), hts _ q_im_X2_between, hts _ q_sel_X2_X2_between⟩ (xpV hE hS (hX.roads) rfl) rfl rfl hl.1 rfl (lv_room (Nat.le_of_ble_eq_true rfl)) dX4_setMinutes_68 ⟨Nat.le_of_ble_eq_true rfl, Nat.le_of_ble_eq_true rfl⟩) ?_
          refine lv_istore (lv' := [(4, .int (wy g (plN a) (plN b))), (0, .ref (ad 0 0)), (1, .int (a)), (2, .int (b)), (3, .int (x))]) hx hb dX4_setMinutes_71 hl (by decide) rfl (fun ls hl => ?_)
          refine lv_aload_n hx hb dX4_setMinutes_73 rfl (lv_at hl 1 rfl) ?_
          refine va_get (D := D) (ci := 5) (v := .ref (ad 0 3)) (C := RX4) (T := TX4) (N := 11) hx hb hts qi_X4 hown hK (xP1 (hX.main)) 0 rfl rfl 2 (by decide) (hts _ q_fl_X4_22) (fun _ h9 => h9) rfl dX4_setMinutes_74 ?_
          refine lv_iload_n hx hb dX4_setMinutes_77 rfl (lv_at hl 2 rfl) ?_
          refine lv_iload_n hx hb dX4_setMinutes_78 rfl (lv_at hl 3 rfl) ?_
          refine lv_iload_n hx hb dX4_setMinutes_79 rfl (lv_at hl 4 rfl) ?_
          refine xcv (va_runV (As := [.int (a), .int (b), .int (x)]) (rest := []) ⟨hx, hb, hml, hown, hts⟩ (c_X2_setBetween l D cA e0 A s.heap ad g tt N hX hA a b x (plN a) (plN b) (okP_pl hn8 p5) (okP_pl hn8 p13)) ⟨(callB_of 3 hts gi_X2_setBetween rfl rfl rfl (hts _ q_ini_X2) (hts _ q_ml_X4_86) hd_X2_setBetween ⟨Nat.le_of_ble_eq_true rfl, Nat.le_of_ble_eq_true rfl⟩), hts _ q_im_X2_setBetween, hts _ q_sel_X2_X2_setBetween⟩ (xpV hE hS (hX.roads) rfl) rfl rfl hl.1 rfl (lv_room (Nat.le_of_ble_eq_true rfl)) dX4_setMinutes_80 ⟨Nat.le_of_ble_eq_true rfl, Nat.le_of_ble_eq_true rfl⟩) hS (fun q h => h) (fun H1 locs hP9 hz9 hk9 hS => ?_)
          have hX9 := hP9
          refine lv_aload_n hx hb dX4_setMinutes_83 rfl (lv_at hl 1 rfl) ?_
          refine va_get (D := D) (ci := 5) (v := .ref (ad 0 3)) (C := RX4) (T := TX4) (N := 11) hx hb hts qi_X4 hown hK (xP1 (hX9.main)) 0 rfl rfl 2 (by decide) (hts _ q_fl_X4_22) (fun _ h9 => h9) rfl dX4_setMinutes_84 ?_
          refine lv_aload_n hx hb dX4_setMinutes_87 rfl (lv_at hl 1 rfl) ?_
          refine va_get (D := D) (ci := 5) (v := .ref (ad 0 1)) (C := RX4) (T := TX4) (N := 11) hx hb hts qi_X4 hown hK (xP1 (hX9.main)) 0 rfl rfl 0 (by decide) (hts _ q_fl_X4_10) (fun _ h9 => h9) rfl dX4_setMinutes_88 ?_
          refine xcRi (va_runV (As := []) (rest := [.ref (ad 0 3)]) ⟨hx, hb, hml, hown, hts⟩ (c_Jx4a65c_size_8abf5 l D cA e0 A H1 (ad 0 1) ((va_up g 3 (swF (g 3) (plN a) (plN b) x)) 18 0) (ad 0 9) (nI (N 0)) (hX9.ml)) ⟨(callB_of 0 hts gi_Jx4a65c_size_8abf5 rfl rfl rfl (hts _ q_ini_Jx4a65c) (hts _ q_ml_X4_48) hd_Jx4a65c_size_8abf5 ⟨Nat.le_of_ble_eq_true rfl, Nat.le_of_ble_eq_true rfl⟩), hts _ q_im_Jx4a65c_size_8abf5, hts _ q_sel_Jx4a65c_Jx4a65c_size_8abf5⟩ (xpV hE hS (hX9.ml) rfl) rfl rfl hl.1 rfl (lv_room (Nat.le_of_ble_eq_true rfl)) dX4_setMinutes_91 ⟨Nat.le_of_ble_eq_true rfl, Nat.le_of_ble_eq_true rfl⟩) ?_
          refine xcv (va_runV (As := [.int (nI (N 0))]) (rest := []) ⟨hx, hb, hml, hown, hts⟩ (c_X2_measureTours l D cA e0 A H1 ad (va_up g 3 (swF (g 3) (plN a) (plN b) x)) tt N hX9 hA) ⟨(callB_of 1 hts gi_X2_measureTours rfl rfl rfl (hts _ q_ini_X2) (hts _ q_ml_X4_66) hd_X2_measureTours ⟨Nat.le_of_ble_eq_true rfl, Nat.le_of_ble_eq_true rfl⟩), hts _ q_im_X2_measureTours, hts _ q_sel_X2_X2_measureTours⟩ (xpV hE hS (hX9.roads) rfl) rfl rfl hl.1 rfl (lv_room (Nat.le_of_ble_eq_true rfl)) dX4_setMinutes_94 ⟨Nat.le_of_ble_eq_true rfl, Nat.le_of_ble_eq_true rfl⟩) hS (fun q h => h) (fun H2 locs hP9 hz9 hk9 hS => ?_)
          obtain ⟨g8, hX8, hf8, hw8⟩ := hP9
          refine lv_iload hx hb dX4_setMinutes_97 (lv_at hl 0 rfl) ?_
          refine vx_ret ?_
          have hpost := (⟨⟨⟨p5, p13⟩, c28, (ou_r (a := 1) (b := 200) (by omega) (by omega)).mp c49⟩, rfl, g8, hX8, hf8, hw8⟩ : ((okP (N 0) a ∧ okP (N 0) b) ∧ a ≠ b ∧ okR 1 200 x) ∧ wy g (plN a) (plN b) = wy g (plN a) (plN b) ∧ ∃ g2, xW D cA ad g2 tt N _ ∧ (∀ k, k ≠ 17 → g2 k = va_up g 3 (swF (g 3) (plN a) (plN b) x) k) ∧ hwAll g2 (N 0))
          refine W.widen (k := 1) (n := 6) (by omega) (by omega) ?_
          exact W.iret (v := (wy g (plN a) (plN b))) hx hb hr (fun t ht _ => ⟨⟨(wy g (plN a) (plN b)), H2, rfl, hpost, ht⟩, hS.F ht⟩) hS.2.2 dX4_setMinutes_99
        · exact xthrow (cls := xIAE) (text := "minutes is not 1 to 200") hx hb hl9 hE hS hown (by decide +kernel) q_cl_X4_41 q_ini_java_lang_IllegalArgumentException xth_IAE xgd_IAE (by decide) (hl.1.trans hml.symm) dX4_setMinutes_52 dX4_setMinutes_55 dX4_setMinutes_56 dX4_setMinutes_58 dX4_setMinutes_61 hxt (Nat.le_of_ble_eq_true rfl) (Nat.le_of_ble_eq_true rfl) (Nat.le_of_ble_eq_true rfl) (Nat.le_of_ble_eq_true rfl) hlocks (Or.inr ⟨rfl, ⟨p5, p13⟩, fun z => c49 ((ou_r (a := 1) (b := 200) (by omega) (by omega)).mpr z.2)⟩) (Nat.le_of_ble_eq_true rfl) (Nat.le_of_ble_eq_true rfl)
      · exact xthrow (cls := xIAE) (text := "a and b are the same") hx hb hl9 hE hS hown (by decide +kernel) q_cl_X4_41 q_ini_java_lang_IllegalArgumentException xth_IAE xgd_IAE (by decide) (hl.1.trans hml.symm) dX4_setMinutes_31 dX4_setMinutes_34 dX4_setMinutes_35 dX4_setMinutes_37 dX4_setMinutes_40 hxt (Nat.le_of_ble_eq_true rfl) (Nat.le_of_ble_eq_true rfl) (Nat.le_of_ble_eq_true rfl) (Nat.le_of_ble_eq_true rfl) hlocks (Or.inr ⟨rfl, ⟨p5, p13⟩, fun z => z.1 c28⟩) (Nat.le_of_ble_eq_true rfl) (Nat.le_of_ble_eq_true rfl)
    · exact xthrow (cls := xIOB) (text := "there is no such machine") hx hb hl9 hE hS hown (by decide +kernel) q_cl_X4_73 q_ini_java_lang_IndexOutOfBoundsException xth_IOB xgd_IOB (by decide) (hl.1.trans hml.symm) dX4_setMinutes_16 dX4_setMinutes_19 dX4_setMinutes_20 dX4_setMinutes_22 dX4_setMinutes_25 hxt (Nat.le_of_ble_eq_true rfl) (Nat.le_of_ble_eq_true rfl) (Nat.le_of_ble_eq_true rfl) (Nat.le_of_ble_eq_true rfl) hlocks (Or.inl ⟨rfl, fun z => c13 ((np_iff (by omega)).mpr z.2)⟩) (Nat.le_of_ble_eq_true rfl) (Nat.le_of_ble_eq_true rfl)
set_option maxHeartbeats 4000000 in
set_option maxRecDepth 100000 in
/-- Machine.sellFrom(slot) -/
theorem c_X0_sellFrom (l : Launch) (D : va_G) (cA : Nat → ClassId) (e0 : Nat) (A : Nat → Prop) (H0 : Heap) (ad : Nat → Nat → Nat) (g : Nat → Nat → Int32) (tt : Nat → Int64) (N : Nat → Nat) (hX : xW D cA ad g tt N H0) (hA : xA A e0 ad N) (i0 k d0 : Nat) (hi0 : i0 < N 0) (hk : k < 6 * N 0) (hd0 : g 7 k = nI d0) (hd2 : d0 ≤ 20) : Met l yX0_sellFrom w_X0_sellFrom ({ frames := 0, cells := 0, slots := 0, locals := 0 } : Room) (xPc D cA e0 A H0 [.ref (ad 1 i0), .ref (ad 3 k)]) (xQi (fun r h => xW D cA ad (sfF g i0 k) tt N h ∧ r = nI (cntF g i0 k)) A) 0 0 (A) := by
  refine Met.ofW (cc := cX0_sellFrom) (maxL := 4) (ret := (some .int)) (by decide) rfl ?_
  intro p e s m args below meth c s₁ B hml hv
  obtain ⟨rfl, hH, hE⟩ := hv
  subst hH
  have hx := B.exec
  have hb := B.bytes
  have hr := B.returns
  have hts := hE.1.all ([.ref (ad 1 i0), .ref (ad 3 k)] : List Value).toArray
  have hown : s.vm.findClass RX0 = some m.cls := findClass_of_methodNamed B.named
  have hlocks := B.notSynchronized
  have hK := hE.2.1
  have hS : va_S A s.heap s.heap [] := va_S.rf
  have hl := lv_entry ([.ref (ad 1 i0), .ref (ad 3 k)]) (n := 4) (Nat.le_of_ble_eq_true rfl)
  rw [lg_entry_eq]
  generalize (lg_sl ([.ref (ad 1 i0), .ref (ad 3 k)]) ++ List.replicate (4 - (lg_sl ([.ref (ad 1 i0), .ref (ad 3 k)])).length) Slot.unset).toArray = ls at hl ⊢
  have hl : lv_has ls 4 [(0, .ref (ad 1 i0)), (1, .ref (ad 3 k))] := hl
  refine lv_iconst (v := nI 0) hx hb dX0_sellFrom_0 (by decide) ?_
  refine lv_istore_n (lv' := [(2, .int (nI 0)), (0, .ref (ad 1 i0)), (1, .ref (ad 3 k))]) hx hb dX0_sellFrom_1 rfl hl (by decide) rfl (fun ls hl => ?_)
  refine lv_iconst (v := nI 0) hx hb dX0_sellFrom_2 (by decide) ?_
  refine lv_istore_n (lv' := [(3, .int (nI 0)), (2, .int (nI 0)), (0, .ref (ad 1 i0)), (1, .ref (ad 3 k))]) hx hb dX0_sellFrom_3 rfl hl (by decide) rfl (fun ls hl => ?_)
  have LOOP4 : ∀ (n4 : Nat) (w : Nat) (cc : Nat) (g1 : Nat → Nat → Int32) (H : Heap) (locs : List Loc) (ls : Array Slot), (w ≤ d0) → (cc = (slS (g 6 k) (g 0 i0) (g 5 k) (g 1 i0) w).2.2) → (xW D cA ad g1 tt N H) → (g1 = slG g i0 k (slS (g 6 k) (g 0 i0) (g 5 k) (g 1 i0) w)) → va_S A s.heap H locs → (d0 - w) < n4 → lv_has ls 4 [(3, .int (nI (w))), (2, .int (nI (cc))), (0, .ref (ad 1 i0)), (1, .ref (ad 3 k))] → W p l e (headSpec w_X0_sellFrom ({ frames := 0, cells := 0, slots := 0, locals := 0 } : Room)).room s m ([.ref (ad 1 i0), .ref (ad 3 k)] : List Value).toArray below meth c H locs 0 0 (MQ below (xQi (fun r h => xW D cA ad (sfF g i0 k) tt N h ∧ r = nI (cntF g i0 k)) A) ([.ref (ad 1 i0), .ref (ad 3 k)] : List Value).toArray s 0 0 (A)) (F0 m 4 ls []) := by
    intro n4
    induction n4 with
    | zero => intro w cc g1 H locs ls hw hcc hX1 hg1 hS hmeas hl; exact absurd hmeas (Nat.not_lt_zero _)
    | succ n4 ih4 =>
      intro w cc g1 H locs ls hw hcc hX1 hg1 hS hmeas hl
      have e5 : g1 5 k = (slS (g 6 k) (g 0 i0) (g 5 k) (g 1 i0) w).1 := by rw [hg1, slG_5, upd_eq]
      have e1 : g1 1 i0 = (slS (g 6 k) (g 0 i0) (g 5 k) (g 1 i0) w).2.1 := by rw [hg1, slG_1, upd_eq]
      have e6 : g1 6 k = g 6 k := by rw [hg1, slG_n g i0 k _ (by omega) (by omega)]
      have e0 : g1 0 i0 = g 0 i0 := by rw [hg1, slG_n g i0 k _ (by omega) (by omega)]
      refine lv_iload_n hx hb dX0_sellFrom_4 rfl (lv_at hl 0 rfl) ?_
      refine lv_aload_n hx hb dX0_sellFrom_5 rfl (lv_at hl 3 rfl) ?_
      refine va_get (D := D) (ci := 4) (v := .int (g1 7 (k))) (C := RX3) (T := TX3) (N := 6) hx hb hts qi_X3 hown hK (xP1 (hX1.slot hk)) 0 rfl rfl 3 (by decide) (hts _ q_fl_X0_43) (fun _ h9 => h9) rfl dX0_sellFrom_6 ?_
      refine xtop (show (g1 7 (k)) = nI (d0) from by rw [hg1, slG_n g i0 k _ (by omega) (by omega)]; exact hd0) ?_
      refine lv_icmp_ge (tgt := 67) hx hb dX0_sellFrom_9 (by decide) (fun c9 => ?_) (fun c9 => ?_)
      · have c9 : d0 ≤ w := (nI_leI (a := d0) (b := w) (by omega) (by omega)).mp c9
        have hwd : w = d0 := by omega
        refine lv_aload_n hx hb dX0_sellFrom_67 rfl (lv_at hl 3 rfl) ?_
        refine lv_dup hx hb dX0_sellFrom_68 rfl ?_
        refine va_get (D := D) (ci := 4) (v := .int (g1 8 (k))) (C := RX3) (T := TX3) (N := 6) hx hb hts qi_X3 hown hK (xP1 (hX1.slot hk)) 0 rfl rfl 4 (by decide) (hts _ q_fl_X0_49) (fun _ h9 => h9) rfl dX0_sellFrom_69 ?_
        refine lv_iload_n hx hb dX0_sellFrom_72 rfl (lv_at hl 1 rfl) ?_
        refine lv_iadd hx hb dX0_sellFrom_73 ?_
        refine xput (D := D) (ci := 4) (v := .int ((g1 8 (k)) + (nI (cc)))) (C := RX3) (T := TX3) (N := 6) hx hb hts qi_X3 tyX3 tyX3_ok nmX3 hown hK hS (hX1.slot hk) (hA.a (xV3 hk)) rfl 4 (by decide) (hts _ q_fl_X0_49) (fun _ h9 => h9) rfl (tyX3_ok 4 (by decide)) rfl rfl (Nat.le_of_ble_eq_true rfl) dX0_sellFrom_74 (fun H1 locs hU hS => ?_)
        have hX2 := hX1.ps8 hA hk hU
        obtain ⟨g2, hg2⟩ : ∃ z, z = va_up g1 8 (upd (g1 8) k ((g1 8 (k)) + (nI (cc)))) := ⟨_, rfl⟩
        rw [← hg2] at hX2
        refine lv_aload_n hx hb dX0_sellFrom_77 rfl (lv_at hl 3 rfl) ?_
        refine lv_dup hx hb dX0_sellFrom_78 rfl ?_
        refine va_get (D := D) (ci := 4) (v := .int (g2 9 (k))) (C := RX3) (T := TX3) (N := 6) hx hb hts qi_X3 hown hK (xP1 (hX2.slot hk)) 0 rfl rfl 5 (by decide) (hts _ q_fl_X0_52) (fun _ h9 => h9) rfl dX0_sellFrom_79 ?_
        refine lv_aload_n hx hb dX0_sellFrom_82 rfl (lv_at hl 3 rfl) ?_
        refine va_get (D := D) (ci := 4) (v := .int (g2 7 (k))) (C := RX3) (T := TX3) (N := 6) hx hb hts qi_X3 hown hK (xP1 (hX2.slot hk)) 0 rfl rfl 3 (by decide) (hts _ q_fl_X0_43) (fun _ h9 => h9) rfl dX0_sellFrom_83 ?_
        refine lv_iload_n hx hb dX0_sellFrom_86 rfl (lv_at hl 1 rfl) ?_
        refine lv_isub hx hb dX0_sellFrom_87 ?_
        refine lv_iadd hx hb dX0_sellFrom_88 ?_
        refine xput (D := D) (ci := 4) (v := .int ((g2 9 (k)) + ((g2 7 (k)) - (nI (cc))))) (C := RX3) (T := TX3) (N := 6) hx hb hts qi_X3 tyX3 tyX3_ok nmX3 hown hK hS (hX2.slot hk) (hA.a (xV3 hk)) rfl 5 (by decide) (hts _ q_fl_X0_52) (fun _ h9 => h9) rfl (tyX3_ok 5 (by decide)) rfl rfl (Nat.le_of_ble_eq_true rfl) dX0_sellFrom_89 (fun H3 locs hU hS => ?_)
        have hX4 := hX2.ps9 hA hk hU
        obtain ⟨g4, hg4⟩ : ∃ z, z = va_up g2 9 (upd (g2 9) k ((g2 9 (k)) + ((g2 7 (k)) - (nI (cc))))) := ⟨_, rfl⟩
        rw [← hg4] at hX4
        refine lv_iload_n hx hb dX0_sellFrom_92 rfl (lv_at hl 1 rfl) ?_
        have hpost := (show xW D cA ad (sfF g i0 k) tt N H3 ∧ nI (cc) = nI (cntF g i0 k) from by
            subst hwd
            obtain ⟨z1, z2⟩ := sl_end hd0 hd2 hg1 hcc hg2 hg4
            rw [← z1, ← z2]
            exact ⟨hX4, rfl⟩)
        refine W.widen (k := 0) (n := 0) (by omega) (by omega) ?_
        exact W.iret (v := (nI (cc))) hx hb hr (fun t ht _ => ⟨⟨(nI (cc)), H3, rfl, hpost, ht⟩, hS.F ht⟩) hS.2.2 dX0_sellFrom_93
      · have c9 : ¬ (d0 ≤ w) := fun z => c9 ((nI_leI (a := d0) (b := w) (by omega) (by omega)).mpr z)
        refine lv_aload_n hx hb dX0_sellFrom_12 rfl (lv_at hl 3 rfl) ?_
        refine va_get (D := D) (ci := 4) (v := .int (g1 5 (k))) (C := RX3) (T := TX3) (N := 6) hx hb hts qi_X3 hown hK (xP1 (hX1.slot hk)) 0 rfl rfl 1 (by decide) (hts _ q_fl_X0_46) (fun _ h9 => h9) rfl dX0_sellFrom_13 ?_
        refine lv_if_le (tgt := 61) hx hb dX0_sellFrom_16 (by decide) (fun c16 => ?_) (fun c16 => ?_)
        · have hno : ¬ (0 < (slS (g 6 k) (g 0 i0) (g 5 k) (g 1 i0) w).1 ∧ (slS (g 6 k) (g 0 i0) (g 5 k) (g 1 i0) w).2.1 + g 6 k ≤ g 0 i0) := fun z => by
            have z1 := z.1
            rw [← e5, i_lt] at z1
            rw [i_le] at c16
            omega
          refine lv_iinc (v := nI (w + 1)) (lv' := [(3, .int (nI (w + 1))), (2, .int (nI (cc))), (0, .ref (ad 1 i0)), (1, .ref (ad 3 k))]) hx hb dX0_sellFrom_61 hl (k := 0) rfl (nI_add w 1) (by decide) rfl (fun ls hl => ?_)
          refine lv_goto (tgt := 4) hx hb dX0_sellFrom_64 (by decide) ?_
          exact ih4 (w + 1) cc g1 H locs _ (by omega) (by rw [slS_no hno]; exact hcc) hX1 (by rw [slS_no hno]; exact hg1) hS (by omega) (lv_sub hl [0, 1, 2, 3] rfl)
        · have hy1 : 0 < (slS (g 6 k) (g 0 i0) (g 5 k) (g 1 i0) w).1 := by
            rw [← e5, i_lt]
            rw [i_le] at c16
            omega
          refine lv_aload_n hx hb dX0_sellFrom_19 rfl (lv_at hl 2 rfl) ?_
          refine va_get (D := D) (ci := 1) (v := .int (g1 1 i0)) (C := RX0) (T := TX0) (N := 4) hx hb hts qi_X0 hown hK (xP1 (hX1.mach hi0)) 0 rfl rfl 2 (by decide) (hts _ q_fl_X0_26) (fun _ h9 => h9) rfl dX0_sellFrom_20 ?_
          refine lv_aload_n hx hb dX0_sellFrom_23 rfl (lv_at hl 3 rfl) ?_
          refine va_get (D := D) (ci := 4) (v := .int (g1 6 (k))) (C := RX3) (T := TX3) (N := 6) hx hb hts qi_X3 hown hK (xP1 (hX1.slot hk)) 0 rfl rfl 2 (by decide) (hts _ q_fl_X0_29) (fun _ h9 => h9) rfl dX0_sellFrom_24 ?_
          refine lv_iadd hx hb dX0_sellFrom_27 ?_
          refine lv_aload_n hx hb dX0_sellFrom_28 rfl (lv_at hl 2 rfl) ?_
          refine va_get (D := D) (ci := 1) (v := .int (g1 0 i0)) (C := RX0) (T := TX0) (N := 4) hx hb hts qi_X0 hown hK (xP1 (hX1.mach hi0)) 0 rfl rfl 0 (by decide) (hts _ q_fl_X0_17) (fun _ h9 => h9) rfl dX0_sellFrom_29 ?_
          refine lv_icmp_gt (tgt := 61) hx hb dX0_sellFrom_32 (by decide) (fun c32 => ?_) (fun c32 => ?_)
          · have hno : ¬ (0 < (slS (g 6 k) (g 0 i0) (g 5 k) (g 1 i0) w).1 ∧ (slS (g 6 k) (g 0 i0) (g 5 k) (g 1 i0) w).2.1 + g 6 k ≤ g 0 i0) := fun z => by
              have z2 := z.2
              rw [← e1, ← e6, ← e0, i_le] at z2
              rw [i_lt] at c32
              omega
            refine lv_iinc (v := nI (w + 1)) (lv' := [(3, .int (nI (w + 1))), (2, .int (nI (cc))), (0, .ref (ad 1 i0)), (1, .ref (ad 3 k))]) hx hb dX0_sellFrom_61 hl (k := 0) rfl (nI_add w 1) (by decide) rfl (fun ls hl => ?_)
            refine lv_goto (tgt := 4) hx hb dX0_sellFrom_64 (by decide) ?_
            exact ih4 (w + 1) cc g1 H locs _ (by omega) (by rw [slS_no hno]; exact hcc) hX1 (by rw [slS_no hno]; exact hg1) hS (by omega) (lv_sub hl [0, 1, 2, 3] rfl)
          · have hy2 : (slS (g 6 k) (g 0 i0) (g 5 k) (g 1 i0) w).2.1 + g 6 k ≤ g 0 i0 := by
              rw [← e1, ← e6, ← e0, i_le]
              rw [i_lt] at c32
              omega
            refine lv_aload_n hx hb dX0_sellFrom_35 rfl (lv_at hl 3 rfl) ?_
            refine lv_dup hx hb dX0_sellFrom_36 rfl ?_
            refine va_get (D := D) (ci := 4) (v := .int (g1 5 (k))) (C := RX3) (T := TX3) (N := 6) hx hb hts qi_X3 hown hK (xP1 (hX1.slot hk)) 0 rfl rfl 1 (by decide) (hts _ q_fl_X0_46) (fun _ h9 => h9) rfl dX0_sellFrom_37 ?_
            refine lv_iconst (v := nI 1) hx hb dX0_sellFrom_40 (by decide) ?_
            refine lv_isub hx hb dX0_sellFrom_41 ?_
            refine xput (D := D) (ci := 4) (v := .int ((g1 5 (k)) - (nI 1))) (C := RX3) (T := TX3) (N := 6) hx hb hts qi_X3 tyX3 tyX3_ok nmX3 hown hK hS (hX1.slot hk) (hA.a (xV3 hk)) rfl 1 (by decide) (hts _ q_fl_X0_46) (fun _ h9 => h9) rfl (tyX3_ok 1 (by decide)) rfl rfl (Nat.le_of_ble_eq_true rfl) dX0_sellFrom_42 (fun H5 locs hU hS => ?_)
            have hX6 := hX1.ps5 hA hk hU
            obtain ⟨g6, hg6⟩ : ∃ z, z = va_up g1 5 (upd (g1 5) k ((g1 5 (k)) - (nI 1))) := ⟨_, rfl⟩
            rw [← hg6] at hX6
            refine lv_aload_n hx hb dX0_sellFrom_45 rfl (lv_at hl 2 rfl) ?_
            refine lv_dup hx hb dX0_sellFrom_46 rfl ?_
            refine va_get (D := D) (ci := 1) (v := .int (g6 1 i0)) (C := RX0) (T := TX0) (N := 4) hx hb hts qi_X0 hown hK (xP1 (hX6.mach hi0)) 0 rfl rfl 2 (by decide) (hts _ q_fl_X0_26) (fun _ h9 => h9) rfl dX0_sellFrom_47 ?_
            refine lv_aload_n hx hb dX0_sellFrom_50 rfl (lv_at hl 3 rfl) ?_
            refine va_get (D := D) (ci := 4) (v := .int (g6 6 (k))) (C := RX3) (T := TX3) (N := 6) hx hb hts qi_X3 hown hK (xP1 (hX6.slot hk)) 0 rfl rfl 2 (by decide) (hts _ q_fl_X0_29) (fun _ h9 => h9) rfl dX0_sellFrom_51 ?_
            refine lv_iadd hx hb dX0_sellFrom_54 ?_
            refine xput (D := D) (ci := 1) (v := .int ((g6 1 i0) + (g6 6 (k)))) (C := RX0) (T := TX0) (N := 4) hx hb hts qi_X0 tyX0 tyX0_ok nmX0 hown hK hS (hX6.mach hi0) (hA.a (xV1 hi0)) rfl 2 (by decide) (hts _ q_fl_X0_26) (fun _ h9 => h9) rfl (tyX0_ok 2 (by decide)) rfl rfl (Nat.le_of_ble_eq_true rfl) dX0_sellFrom_55 (fun H7 locs hU hS => ?_)
            have hX8 := hX6.pm1 hA hi0 hU
            obtain ⟨g8, hg8⟩ : ∃ z, z = va_up g6 1 (upd (g6 1) i0 ((g6 1 i0) + (g6 6 (k)))) := ⟨_, rfl⟩
            rw [← hg8] at hX8
            refine lv_iinc (v := nI (cc + 1)) (lv' := [(2, .int (nI (cc + 1))), (3, .int (nI (w))), (0, .ref (ad 1 i0)), (1, .ref (ad 3 k))]) hx hb dX0_sellFrom_58 hl (k := 1) rfl (nI_add cc 1) (by decide) rfl (fun ls hl => ?_)
            refine lv_iinc (v := nI (w + 1)) (lv' := [(3, .int (nI (w + 1))), (2, .int (nI (cc + 1))), (0, .ref (ad 1 i0)), (1, .ref (ad 3 k))]) hx hb dX0_sellFrom_61 hl (k := 1) rfl (nI_add w 1) (by decide) rfl (fun ls hl => ?_)
            refine lv_goto (tgt := 4) hx hb dX0_sellFrom_64 (by decide) ?_
            exact ih4 (w + 1) (cc + 1) g8 H7 locs _ (by omega) (by rw [slS_yes hy1 hy2, hcc]) hX8 (by rw [hg8, hg6]; exact sl_step hg1 hy1 hy2) hS (by omega) (lv_sub hl [0, 1, 2, 3] rfl)
  exact LOOP4 _ 0 0 g s.heap [] _ (by omega) rfl hX (slG_0 g i0 k).symm hS (Nat.lt_succ_self _) (lv_sub hl [0, 1, 2, 3] rfl)
