/-! The model: a machine added (by p47.py) -/
set_option maxHeartbeats 4000000 in
set_option maxRecDepth 100000 in
/-- model.addMachine -/
theorem c_X5_addMachine (l : Launch) (D : va_G) (cA : Nat → ClassId) (e0 : Nat) (A : Nat → Prop) (H0 : Heap) (b : Nat → Nat) (g : Nat → Nat → Int32) (tt : Nat → Int64) (n np : Nat) (hX : yW D cA b g tt n np H0) (hA : yA A b n np) (v : Int32) : Met l yX5_addMachine w_X5_addMachine ({ frames := 1, cells := 0, slots := 0, locals := 22 } : Room) (xPc D cA e0 A H0 [.ref (b 0), .int (v)]) (xQi (fun r h => (okR 100 100000 v ∧ n < 8 ∧ r = nI n ∧ ∃ g2, yW D cA b g2 tt (n + 1) np h ∧ eqY (va_up g 0 (upd (g 0) n v)) g2 0) ∨ (¬ okR 100 100000 v ∧ yW D cA b (thG g 1) tt n np h) ∨ (okR 100 100000 v ∧ ¬ n < 8 ∧ yW D cA b (thG g 2) tt n np h)) A) 0 0 (A) := by
  refine Met.ofW (cc := cX5_addMachine) (maxL := 2) (ret := (some .int)) (by decide) rfl ?_
  intro p e s m args below meth c s₁ B hml hv
  obtain ⟨rfl, hH, hE⟩ := hv
  subst hH
  have hx := B.exec
  have hb := B.bytes
  have hr := B.returns
  have hts := hE.1.all ([.ref (b 0), .int (v)] : List Value).toArray
  have hown : s.vm.findClass RX5 = some m.cls := findClass_of_methodNamed B.named
  have hlocks := B.notSynchronized
  have hK := hE.2.1
  have hS : va_S A s.heap s.heap [] := va_S.rf
  have hl := lv_entry ([.ref (b 0), .int (v)]) (n := 2) (Nat.le_of_ble_eq_true rfl)
  rw [lg_entry_eq]
  generalize (lg_sl ([.ref (b 0), .int (v)]) ++ List.replicate (2 - (lg_sl ([.ref (b 0), .int (v)])).length) Slot.unset).toArray = ls at hl ⊢
  have hl : lv_has ls 2 [(0, .ref (b 0)), (1, .int (v))] := hl
  have hn8 := hA.2.2.1
  refine lv_aload_n hx hb dX5_addMachine_0 rfl (lv_at hl 0 rfl) ?_
  refine lv_iconst (v := nI 0) hx hb dX5_addMachine_1 (by decide) ?_
  refine xput (D := D) (ci := 6) (v := .int (nI 0)) (C := RX5) (T := TX5) (N := 17) hx hb hts qi_X5 tyX5 tyX5_ok nmX5 hown hK hS (hX.main) (hA.a (show 0 < 14 by omega)) rfl 0 (by decide) (hts _ q_fl_X5_50) (fun _ h9 => h9) rfl (tyX5_ok 0 (by decide)) rfl rfl (Nat.le_of_ble_eq_true rfl) dX5_addMachine_2 (fun H1 locs hU hS => ?_)
  obtain ⟨g1, hg1⟩ : ∃ z, z = thG g 0 := ⟨_, rfl⟩
  have hX1 : yW D cA b g1 tt n np H1 := by rw [hg1]; exact hX.pthr hA hU
  refine lv_iload_n hx hb dX5_addMachine_5 rfl (lv_at hl 1 rfl) ?_
  refine lv_bipush (v := nI 100) hx hb dX5_addMachine_6 (by decide) ?_
  refine lv_ldc (v := nI 100000) hx hb hown (hts _ q_ko_X5_65) dX5_addMachine_8 ?_
  refine xcRi (va_runS (As := [.int (v), .int (nI 100), .int (nI 100000)]) (rest := []) ⟨hx, hb, hml, hown, hts⟩ (c_X5_isIn l D cA e0 A H1 v (nI 100) (nI 100000)) ⟨(callB_of 3 hts gi_X5_isIn rfl rfl rfl (hts _ q_ini_X5) (hts _ q_ml_X5_57) hd_X5_isIn ⟨Nat.le_of_ble_eq_true rfl, Nat.le_of_ble_eq_true rfl⟩), hts _ q_st_X5_isIn⟩ (xpS hE hS) rfl rfl hl.1 rfl (lv_room (Nat.le_of_ble_eq_true rfl)) dX5_addMachine_10 ⟨Nat.le_of_ble_eq_true rfl, Nat.le_of_ble_eq_true rfl⟩) ?_
  refine lv_if_ne (tgt := 22) hx hb dX5_addMachine_13 (by decide) (fun c13 => ?_) (fun c13 => ?_)
  · refine lv_aload_n hx hb dX5_addMachine_22 rfl (lv_at hl 0 rfl) ?_
    refine va_get (D := D) (ci := 6) (v := .int (nI (n))) (C := RX5) (T := TX5) (N := 17) hx hb hts qi_X5 hown hK (xP1 (hX1.main)) 0 rfl rfl 2 (by decide) (hts _ q_fl_X5_54) (fun _ h9 => h9) rfl dX5_addMachine_23 ?_
    refine lv_bipush (v := nI 8) hx hb dX5_addMachine_26 (by decide) ?_
    refine lv_icmp_ne (tgt := 37) hx hb dX5_addMachine_28 (by decide) (fun c28 => ?_) (fun c28 => ?_)
    · have c28 : ¬ (n = 8) := fun z => c28 ((nI_eq (a := n) (b := 8) (by omega) (by omega)).mpr z)
      refine lv_aload_n hx hb dX5_addMachine_37 rfl (lv_at hl 0 rfl) ?_
      refine va_get (D := D) (ci := 6) (v := .ref (b 1)) (C := RX5) (T := TX5) (N := 17) hx hb hts qi_X5 hown hK (xP1 (hX1.main)) 0 rfl rfl 3 (by decide) (hts _ q_fl_X5_9) (fun _ h9 => h9) rfl dX5_addMachine_38 ?_
      refine lv_aload_n hx hb dX5_addMachine_41 rfl (lv_at hl 0 rfl) ?_
      refine va_get (D := D) (ci := 6) (v := .int (nI (n))) (C := RX5) (T := TX5) (N := 17) hx hb hts qi_X5 hown hK (xP1 (hX1.main)) 0 rfl rfl 2 (by decide) (hts _ q_fl_X5_54) (fun _ h9 => h9) rfl dX5_addMachine_42 ?_
      refine lv_iload_n hx hb dX5_addMachine_45 rfl (lv_at hl 1 rfl) ?_
      refine xiast (D := D) hx hb hK hS 0 (hX1.t0) (hA.a (show 1 < 14 by omega)) rfl (i := nI (n)) (x := v) (vp_in_nI (n := n) (by omega) (by omega)) dX5_addMachine_46 (fun H2 locs hU hS => ?_)
      rw [nI_clamp (n := n) (by omega)] at hU
      have hX3 := hX1.p0 hA hU
      obtain ⟨g3, hg3⟩ : ∃ z, z = va_up g1 0 (upd (g1 0) (n) (v)) := ⟨_, rfl⟩
      rw [← hg3] at hX3
      refine lv_aload_n hx hb dX5_addMachine_47 rfl (lv_at hl 0 rfl) ?_
      refine lv_dup hx hb dX5_addMachine_48 rfl ?_
      refine va_get (D := D) (ci := 6) (v := .int (nI (n))) (C := RX5) (T := TX5) (N := 17) hx hb hts qi_X5 hown hK (xP1 (hX3.main)) 0 rfl rfl 2 (by decide) (hts _ q_fl_X5_54) (fun _ h9 => h9) rfl dX5_addMachine_49 ?_
      refine lv_iconst (v := nI 1) hx hb dX5_addMachine_52 (by decide) ?_
      refine lv_iadd hx hb dX5_addMachine_53 ?_
      refine xtop (show ((nI (n)) + (nI 1)) = nI (n + 1) from nI_add n 1) ?_
      refine xput (D := D) (ci := 6) (v := .int (nI (n + 1))) (C := RX5) (T := TX5) (N := 17) hx hb hts qi_X5 tyX5 tyX5_ok nmX5 hown hK hS (hX3.main) (hA.a (show 0 < 14 by omega)) rfl 2 (by decide) (hts _ q_fl_X5_54) (fun _ h9 => h9) rfl (tyX5_ok 2 (by decide)) rfl rfl (Nat.le_of_ble_eq_true rfl) dX5_addMachine_54 (fun H4 locs hU hS => ?_)
      have hXN : yW D cA b g3 tt (n + 1) np H4 := hX3.pn hA hU
      refine lv_aload_n hx hb dX5_addMachine_57 rfl (lv_at hl 0 rfl) ?_
      refine va_get (D := D) (ci := 6) (v := .int (nI ((n + 1)))) (C := RX5) (T := TX5) (N := 17) hx hb hts qi_X5 hown hK (xP1 (hXN.main)) 0 rfl rfl 2 (by decide) (hts _ q_fl_X5_54) (fun _ h9 => h9) rfl dX5_addMachine_58 ?_
      refine lv_iconst (v := nI 1) hx hb dX5_addMachine_61 (by decide) ?_
      refine lv_isub hx hb dX5_addMachine_62 ?_
      refine xtop (show ((nI ((n + 1))) - (nI 1)) = nI (n) from by rw [pk_sub (by omega), show n + 1 - 1 = n by omega]) ?_
      have hpost : (fun r h => (okR 100 100000 v ∧ n < 8 ∧ r = nI n ∧ ∃ g2, yW D cA b g2 tt (n + 1) np h ∧ eqY (va_up g 0 (upd (g 0) n v)) g2 0) ∨ (¬ okR 100 100000 v ∧ yW D cA b (thG g 1) tt n np h) ∨ (okR 100 100000 v ∧ ¬ n < 8 ∧ yW D cA b (thG g 2) tt n np h)) (nI (n)) H4 := by
        refine Or.inl ⟨(ou_r (a := 100) (b := 100000) (by omega) (by omega)).mp (Decidable.byContradiction (fun z => c13 (in_0.mpr z))), by omega, rfl, g3, hXN, fun t a b => ?_, ?_⟩
        · rw [hg3]
          by_cases h0 : t = 0
          · rw [h0, up_eq, up_eq, hg1, thG_t g 0 (by omega)]
          · rw [up_ne h0, up_ne h0, hg1, thG_t g 0 a]
        · rw [hg3, up_ne (by omega), hg1]
          exact thG_20 g 0
      refine W.widen (k := 0) (n := 0) (by omega) (by omega) ?_
      exact W.iret (v := (nI (n))) hx hb hr (fun t ht _ => ⟨⟨(nI (n)), H4, rfl, hpost, ht⟩, hS.F ht⟩) hS.2.2 dX5_addMachine_63
    · have c28 : n = 8 := (nI_eq (a := n) (b := 8) (by omega) (by omega)).mp c28
      refine lv_aload_n hx hb dX5_addMachine_31 rfl (lv_at hl 0 rfl) ?_
      refine lv_iconst (v := nI 2) hx hb dX5_addMachine_32 (by decide) ?_
      refine xci (va_runV (As := [.int (nI 2)]) (rest := []) ⟨hx, hb, hml, hown, hts⟩ (c_X5_fail l D cA e0 A H1 b g1 tt n np hX1 hA (nI 2)) ⟨(callB_of 1 hts gi_X5_fail rfl rfl rfl (hts _ q_ini_X5) (hts _ q_ml_X5_66) hd_X5_fail ⟨Nat.le_of_ble_eq_true rfl, Nat.le_of_ble_eq_true rfl⟩), hts _ q_im_X5_fail, hts _ q_sel_X5_X5_fail⟩ (xpV hE hS (hX1.main) rfl) rfl rfl hl.1 rfl (lv_room (Nat.le_of_ble_eq_true rfl)) dX5_addMachine_33 ⟨Nat.le_of_ble_eq_true rfl, Nat.le_of_ble_eq_true rfl⟩) hS (fun q h => h) (fun r_5 H5 locs hP9 hz9 hk9 hS => ?_)
      obtain ⟨hr9, hXf⟩ := hP9
      have hXf : yW D cA b (thG g 2) tt n np H5 := by rw [← thG_2 g 0 2, ← hg1]; exact hXf
      have hpost : (fun r h => (okR 100 100000 v ∧ n < 8 ∧ r = nI n ∧ ∃ g2, yW D cA b g2 tt (n + 1) np h ∧ eqY (va_up g 0 (upd (g 0) n v)) g2 0) ∨ (¬ okR 100 100000 v ∧ yW D cA b (thG g 1) tt n np h) ∨ (okR 100 100000 v ∧ ¬ n < 8 ∧ yW D cA b (thG g 2) tt n np h)) (r_5) H5 := by
        exact Or.inr (Or.inr ⟨(ou_r (a := 100) (b := 100000) (by omega) (by omega)).mp (Decidable.byContradiction (fun z => c13 (in_0.mpr z))), by omega, hXf⟩)
      refine W.widen (k := 0) (n := 0) (by omega) (by omega) ?_
      exact W.iret (v := r_5) hx hb hr (fun t ht _ => ⟨⟨r_5, H5, rfl, hpost, ht⟩, hS.F ht⟩) hS.2.2 dX5_addMachine_36
  · refine lv_aload_n hx hb dX5_addMachine_16 rfl (lv_at hl 0 rfl) ?_
    refine lv_iconst (v := nI 1) hx hb dX5_addMachine_17 (by decide) ?_
    refine xci (va_runV (As := [.int (nI 1)]) (rest := []) ⟨hx, hb, hml, hown, hts⟩ (c_X5_fail l D cA e0 A H1 b g1 tt n np hX1 hA (nI 1)) ⟨(callB_of 1 hts gi_X5_fail rfl rfl rfl (hts _ q_ini_X5) (hts _ q_ml_X5_66) hd_X5_fail ⟨Nat.le_of_ble_eq_true rfl, Nat.le_of_ble_eq_true rfl⟩), hts _ q_im_X5_fail, hts _ q_sel_X5_X5_fail⟩ (xpV hE hS (hX1.main) rfl) rfl rfl hl.1 rfl (lv_room (Nat.le_of_ble_eq_true rfl)) dX5_addMachine_18 ⟨Nat.le_of_ble_eq_true rfl, Nat.le_of_ble_eq_true rfl⟩) hS (fun q h => h) (fun r_6 H6 locs hP9 hz9 hk9 hS => ?_)
    obtain ⟨hr9, hXf⟩ := hP9
    have hXf : yW D cA b (thG g 1) tt n np H6 := by rw [← thG_2 g 0 1, ← hg1]; exact hXf
    have hpost : (fun r h => (okR 100 100000 v ∧ n < 8 ∧ r = nI n ∧ ∃ g2, yW D cA b g2 tt (n + 1) np h ∧ eqY (va_up g 0 (upd (g 0) n v)) g2 0) ∨ (¬ okR 100 100000 v ∧ yW D cA b (thG g 1) tt n np h) ∨ (okR 100 100000 v ∧ ¬ n < 8 ∧ yW D cA b (thG g 2) tt n np h)) (r_6) H6 := by
      exact Or.inr (Or.inl ⟨fun z => (in_0.mp c13) ((ou_r (a := 100) (b := 100000) (by omega) (by omega)).mpr z), hXf⟩)
    refine W.widen (k := 0) (n := 0) (by omega) (by omega) ?_
    exact W.iret (v := r_6) hx hb hr (fun t ht _ => ⟨⟨r_6, H6, rfl, hpost, ht⟩, hS.F ht⟩) hS.2.2 dX5_addMachine_21
