/-! The model: what it is asked (by p40.py) -/
def thG (g : Nat → Nat → Int32) (k : Nat) : Nat → Nat → Int32 := va_up g 20 (upd (g 20) 0 (nI k))
theorem thG_t (g : Nat → Nat → Int32) (k : Nat) {t : Nat} (h : t ≠ 20) : thG g k t = g t := up_ne h
theorem thG_20 (g : Nat → Nat → Int32) (k : Nat) : thG g k 20 0 = nI k := by unfold thG; rw [up_eq, upd_eq]
theorem thG_2 (g : Nat → Nat → Int32) (a k : Nat) : thG (thG g a) k = thG g k := by
  unfold thG
  rw [up_up, up_eq, upd_upd]
theorem is_ok {n : Nat} {v w : Int32} (hn : n < 2 ^ 30) : ¬ isS n v w = 0 ↔ okS n v w := by
  unfold isS okS
  by_cases h : ouI v (nI 0) (nI n - nI 1) = 0 ∧ ouI w (nI 0) (nI 5) = 0
  · rw [if_pos h]
    obtain ⟨i, h1, h2⟩ := (ou_m hn).mp h.1
    obtain ⟨j, h3, h4⟩ := (ou_k (by omega)).mp h.2
    exact ⟨fun _ => ⟨i, j, h1, by omega, h2, h4⟩, fun _ => by decide⟩
  · rw [if_neg h]
    exact ⟨fun z => absurd rfl z, fun ⟨i, j, h1, h2, h3, h4⟩ => absurd ⟨(ou_m hn).mpr ⟨i, h1, h3⟩, (ou_k (by omega)).mpr ⟨j, by omega, h4⟩⟩ h⟩
set_option maxHeartbeats 4000000 in
set_option maxRecDepth 100000 in
/-- model.X5_machineCount -/
theorem c_X5_machineCount (l : Launch) (D : va_G) (cA : Nat → ClassId) (e0 : Nat) (A : Nat → Prop) (H0 : Heap) (b : Nat → Nat) (g : Nat → Nat → Int32) (tt : Nat → Int64) (n np : Nat) (hX : yW D cA b g tt n np H0) (hA : yA A b n np) : Met l yX5_machineCount w_X5_machineCount ({ frames := 0, cells := 0, slots := 0, locals := 0 } : Room) (xPc D cA e0 A H0 [.ref (b 0)]) (xQi (fun r h => r = nI n ∧ yW D cA b (thG g 0) tt n np h) A) 0 0 (A) := by
  refine Met.ofW (cc := cX5_machineCount) (maxL := 1) (ret := (some .int)) (by decide) rfl ?_
  intro p e s m args below meth c s₁ B hml hv
  obtain ⟨rfl, hH, hE⟩ := hv
  subst hH
  have hx := B.exec
  have hb := B.bytes
  have hr := B.returns
  have hts := hE.1.all ([.ref (b 0)] : List Value).toArray
  have hown : s.vm.findClass RX5 = some m.cls := findClass_of_methodNamed B.named
  have hlocks := B.notSynchronized
  have hK := hE.2.1
  have hS : va_S A s.heap s.heap [] := va_S.rf
  have hl := lv_entry ([.ref (b 0)]) (n := 1) (Nat.le_of_ble_eq_true rfl)
  rw [lg_entry_eq]
  generalize (lg_sl ([.ref (b 0)]) ++ List.replicate (1 - (lg_sl ([.ref (b 0)])).length) Slot.unset).toArray = ls at hl ⊢
  have hl : lv_has ls 1 [(0, .ref (b 0))] := hl
  refine lv_aload_n hx hb dX5_machineCount_0 rfl (lv_at hl 0 rfl) ?_
  refine lv_iconst (v := nI 0) hx hb dX5_machineCount_1 (by decide) ?_
  refine xput (D := D) (ci := 6) (v := .int (nI 0)) (C := RX5) (T := TX5) (N := 17) hx hb hts qi_X5 tyX5 tyX5_ok nmX5 hown hK hS (hX.main) (hA.a (show 0 < 14 by omega)) rfl 0 (by decide) (hts _ q_fl_X5_50) (fun _ h9 => h9) rfl (tyX5_ok 0 (by decide)) rfl rfl (Nat.le_of_ble_eq_true rfl) dX5_machineCount_2 (fun H1 locs hU hS => ?_)
  obtain ⟨g1, hg1⟩ : ∃ z, z = thG g 0 := ⟨_, rfl⟩
  have hX1 : yW D cA b g1 tt n np H1 := by rw [hg1]; exact hX.pthr hA hU
  refine lv_aload_n hx hb dX5_machineCount_5 rfl (lv_at hl 0 rfl) ?_
  refine va_get (D := D) (ci := 6) (v := .int (nI (n))) (C := RX5) (T := TX5) (N := 17) hx hb hts qi_X5 hown hK (xP1 (hX1.main)) 0 rfl rfl 2 (by decide) (hts _ q_fl_X5_54) (fun _ h9 => h9) rfl dX5_machineCount_6 ?_
  have hpost : (fun r h => r = nI n ∧ yW D cA b (thG g 0) tt n np h) (nI (n)) H1 := by
    rw [← hg1]
    exact ⟨rfl, hX1⟩
  refine W.widen (k := 0) (n := 0) (by omega) (by omega) ?_
  exact W.iret (v := (nI (n))) hx hb hr (fun t ht _ => ⟨⟨(nI (n)), H1, rfl, hpost, ht⟩, hS.F ht⟩) hS.2.2 dX5_machineCount_9
set_option maxHeartbeats 4000000 in
set_option maxRecDepth 100000 in
/-- model.X5_planned -/
theorem c_X5_planned (l : Launch) (D : va_G) (cA : Nat → ClassId) (e0 : Nat) (A : Nat → Prop) (H0 : Heap) (b : Nat → Nat) (g : Nat → Nat → Int32) (tt : Nat → Int64) (n np : Nat) (hX : yW D cA b g tt n np H0) (hA : yA A b n np) : Met l yX5_planned w_X5_planned ({ frames := 0, cells := 0, slots := 0, locals := 0 } : Room) (xPc D cA e0 A H0 [.ref (b 0)]) (xQi (fun r h => r = nI np ∧ yW D cA b (thG g 0) tt n np h) A) 0 0 (A) := by
  refine Met.ofW (cc := cX5_planned) (maxL := 1) (ret := (some .int)) (by decide) rfl ?_
  intro p e s m args below meth c s₁ B hml hv
  obtain ⟨rfl, hH, hE⟩ := hv
  subst hH
  have hx := B.exec
  have hb := B.bytes
  have hr := B.returns
  have hts := hE.1.all ([.ref (b 0)] : List Value).toArray
  have hown : s.vm.findClass RX5 = some m.cls := findClass_of_methodNamed B.named
  have hlocks := B.notSynchronized
  have hK := hE.2.1
  have hS : va_S A s.heap s.heap [] := va_S.rf
  have hl := lv_entry ([.ref (b 0)]) (n := 1) (Nat.le_of_ble_eq_true rfl)
  rw [lg_entry_eq]
  generalize (lg_sl ([.ref (b 0)]) ++ List.replicate (1 - (lg_sl ([.ref (b 0)])).length) Slot.unset).toArray = ls at hl ⊢
  have hl : lv_has ls 1 [(0, .ref (b 0))] := hl
  refine lv_aload_n hx hb dX5_planned_0 rfl (lv_at hl 0 rfl) ?_
  refine lv_iconst (v := nI 0) hx hb dX5_planned_1 (by decide) ?_
  refine xput (D := D) (ci := 6) (v := .int (nI 0)) (C := RX5) (T := TX5) (N := 17) hx hb hts qi_X5 tyX5 tyX5_ok nmX5 hown hK hS (hX.main) (hA.a (show 0 < 14 by omega)) rfl 0 (by decide) (hts _ q_fl_X5_50) (fun _ h9 => h9) rfl (tyX5_ok 0 (by decide)) rfl rfl (Nat.le_of_ble_eq_true rfl) dX5_planned_2 (fun H1 locs hU hS => ?_)
  obtain ⟨g1, hg1⟩ : ∃ z, z = thG g 0 := ⟨_, rfl⟩
  have hX1 : yW D cA b g1 tt n np H1 := by rw [hg1]; exact hX.pthr hA hU
  refine lv_aload_n hx hb dX5_planned_5 rfl (lv_at hl 0 rfl) ?_
  refine va_get (D := D) (ci := 6) (v := .int (nI (np))) (C := RX5) (T := TX5) (N := 17) hx hb hts qi_X5 hown hK (xP1 (hX1.main)) 0 rfl rfl 13 (by decide) (hts _ q_fl_X5_86) (fun _ h9 => h9) rfl dX5_planned_6 ?_
  have hpost : (fun r h => r = nI np ∧ yW D cA b (thG g 0) tt n np h) (nI (np)) H1 := by
    rw [← hg1]
    exact ⟨rfl, hX1⟩
  refine W.widen (k := 0) (n := 0) (by omega) (by omega) ?_
  exact W.iret (v := (nI (np))) hx hb hr (fun t ht _ => ⟨⟨(nI (np)), H1, rfl, hpost, ht⟩, hS.F ht⟩) hS.2.2 dX5_planned_9
set_option maxHeartbeats 4000000 in
set_option maxRecDepth 100000 in
/-- model.X5_today -/
theorem c_X5_today (l : Launch) (D : va_G) (cA : Nat → ClassId) (e0 : Nat) (A : Nat → Prop) (H0 : Heap) (b : Nat → Nat) (g : Nat → Nat → Int32) (tt : Nat → Int64) (n np : Nat) (hX : yW D cA b g tt n np H0) (hA : yA A b n np) : Met l yX5_today w_X5_today ({ frames := 0, cells := 0, slots := 0, locals := 0 } : Room) (xPc D cA e0 A H0 [.ref (b 0)]) (xQi (fun r h => r = g 13 0 ∧ yW D cA b (thG g 0) tt n np h) A) 0 0 (A) := by
  refine Met.ofW (cc := cX5_today) (maxL := 1) (ret := (some .int)) (by decide) rfl ?_
  intro p e s m args below meth c s₁ B hml hv
  obtain ⟨rfl, hH, hE⟩ := hv
  subst hH
  have hx := B.exec
  have hb := B.bytes
  have hr := B.returns
  have hts := hE.1.all ([.ref (b 0)] : List Value).toArray
  have hown : s.vm.findClass RX5 = some m.cls := findClass_of_methodNamed B.named
  have hlocks := B.notSynchronized
  have hK := hE.2.1
  have hS : va_S A s.heap s.heap [] := va_S.rf
  have hl := lv_entry ([.ref (b 0)]) (n := 1) (Nat.le_of_ble_eq_true rfl)
  rw [lg_entry_eq]
  generalize (lg_sl ([.ref (b 0)]) ++ List.replicate (1 - (lg_sl ([.ref (b 0)])).length) Slot.unset).toArray = ls at hl ⊢
  have hl : lv_has ls 1 [(0, .ref (b 0))] := hl
  refine lv_aload_n hx hb dX5_today_0 rfl (lv_at hl 0 rfl) ?_
  refine lv_iconst (v := nI 0) hx hb dX5_today_1 (by decide) ?_
  refine xput (D := D) (ci := 6) (v := .int (nI 0)) (C := RX5) (T := TX5) (N := 17) hx hb hts qi_X5 tyX5 tyX5_ok nmX5 hown hK hS (hX.main) (hA.a (show 0 < 14 by omega)) rfl 0 (by decide) (hts _ q_fl_X5_50) (fun _ h9 => h9) rfl (tyX5_ok 0 (by decide)) rfl rfl (Nat.le_of_ble_eq_true rfl) dX5_today_2 (fun H1 locs hU hS => ?_)
  obtain ⟨g1, hg1⟩ : ∃ z, z = thG g 0 := ⟨_, rfl⟩
  have hX1 : yW D cA b g1 tt n np H1 := by rw [hg1]; exact hX.pthr hA hU
  refine lv_aload_n hx hb dX5_today_5 rfl (lv_at hl 0 rfl) ?_
  refine va_get (D := D) (ci := 6) (v := .int (g1 13 0)) (C := RX5) (T := TX5) (N := 17) hx hb hts qi_X5 hown hK (xP1 (hX1.main)) 0 rfl rfl 1 (by decide) (hts _ q_fl_X5_83) (fun _ h9 => h9) rfl dX5_today_6 ?_
  have hpost : (fun r h => r = g 13 0 ∧ yW D cA b (thG g 0) tt n np h) (g1 13 0) H1 := by
    rw [← hg1]
    exact ⟨by rw [hg1, thG_t g 0 (by omega)], hX1⟩
  refine W.widen (k := 0) (n := 0) (by omega) (by omega) ?_
  exact W.iret (v := (g1 13 0)) hx hb hr (fun t ht _ => ⟨⟨(g1 13 0), H1, rfl, hpost, ht⟩, hS.F ht⟩) hS.2.2 dX5_today_9
set_option maxHeartbeats 4000000 in
set_option maxRecDepth 100000 in
/-- model.slot -/
theorem c_X5_slot (l : Launch) (D : va_G) (cA : Nat → ClassId) (e0 : Nat) (A : Nat → Prop) (H0 : Heap) (b : Nat → Nat) (g : Nat → Nat → Int32) (tt : Nat → Int64) (n np : Nat) (hX : yW D cA b g tt n np H0) (hA : yA A b n np) (v w x : Int32) : Met l yX5_slot w_X5_slot ({ frames := 3, cells := 0, slots := 0, locals := 65 } : Room) (xPc D cA e0 A H0 [.ref (b 0), .int (v), .int (w), .int (x)]) (xQi (fun r h => ((okS n v w ∧ okK 5 x) ∧ r = g (4 + cl x) (6 * cl v + cl w) ∧ yW D cA b (thG g 0) tt n np h) ∨ (¬ (okS n v w ∧ okK 5 x) ∧ yW D cA b (thG g 1) tt n np h)) A) 0 0 (A) := by
  refine Met.ofW (cc := cX5_slot) (maxL := 4) (ret := (some .int)) (by decide) rfl ?_
  intro p e s m args below meth c s₁ B hml hv
  obtain ⟨rfl, hH, hE⟩ := hv
  subst hH
  have hx := B.exec
  have hb := B.bytes
  have hr := B.returns
  have hts := hE.1.all ([.ref (b 0), .int (v), .int (w), .int (x)] : List Value).toArray
  have hown : s.vm.findClass RX5 = some m.cls := findClass_of_methodNamed B.named
  have hlocks := B.notSynchronized
  have hK := hE.2.1
  have hS : va_S A s.heap s.heap [] := va_S.rf
  have hl := lv_entry ([.ref (b 0), .int (v), .int (w), .int (x)]) (n := 4) (Nat.le_of_ble_eq_true rfl)
  rw [lg_entry_eq]
  generalize (lg_sl ([.ref (b 0), .int (v), .int (w), .int (x)]) ++ List.replicate (4 - (lg_sl ([.ref (b 0), .int (v), .int (w), .int (x)])).length) Slot.unset).toArray = ls at hl ⊢
  have hl : lv_has ls 4 [(0, .ref (b 0)), (1, .int (v)), (2, .int (w)), (3, .int (x))] := hl
  have hn8 := hA.2.2.1
  refine lv_aload_n hx hb dX5_slot_0 rfl (lv_at hl 0 rfl) ?_
  refine lv_iconst (v := nI 0) hx hb dX5_slot_1 (by decide) ?_
  refine xput (D := D) (ci := 6) (v := .int (nI 0)) (C := RX5) (T := TX5) (N := 17) hx hb hts qi_X5 tyX5 tyX5_ok nmX5 hown hK hS (hX.main) (hA.a (show 0 < 14 by omega)) rfl 0 (by decide) (hts _ q_fl_X5_50) (fun _ h9 => h9) rfl (tyX5_ok 0 (by decide)) rfl rfl (Nat.le_of_ble_eq_true rfl) dX5_slot_2 (fun H1 locs hU hS => ?_)
  obtain ⟨g1, hg1⟩ : ∃ z, z = thG g 0 := ⟨_, rfl⟩
  have hX1 : yW D cA b g1 tt n np H1 := by rw [hg1]; exact hX.pthr hA hU
  refine lv_aload_n hx hb dX5_slot_5 rfl (lv_at hl 0 rfl) ?_
  refine lv_iload_n hx hb dX5_slot_6 rfl (lv_at hl 1 rfl) ?_
  refine lv_iload_n hx hb dX5_slot_7 rfl (lv_at hl 2 rfl) ?_
  refine xcRi (va_runV (As := [.int (v), .int (w)]) (rest := []) ⟨hx, hb, hml, hown, hts⟩ (c_X5_isSlot l D cA e0 A H1 b g1 tt n np hX1 v w) ⟨(callB_of 2 hts gi_X5_isSlot rfl rfl rfl (hts _ q_ini_X5) (hts _ q_ml_X5_74) hd_X5_isSlot ⟨Nat.le_of_ble_eq_true rfl, Nat.le_of_ble_eq_true rfl⟩), hts _ q_im_X5_isSlot, hts _ q_sel_X5_X5_isSlot⟩ (xpV hE hS (hX1.main) rfl) rfl rfl hl.1 rfl (lv_room (Nat.le_of_ble_eq_true rfl)) dX5_slot_8 ⟨Nat.le_of_ble_eq_true rfl, Nat.le_of_ble_eq_true rfl⟩) ?_
  refine lv_if_eq (tgt := 37) hx hb dX5_slot_11 (by decide) (fun c11 => ?_) (fun c11 => ?_)
  · refine lv_aload_n hx hb dX5_slot_37 rfl (lv_at hl 0 rfl) ?_
    refine lv_iconst (v := nI 1) hx hb dX5_slot_38 (by decide) ?_
    refine xci (va_runV (As := [.int (nI 1)]) (rest := []) ⟨hx, hb, hml, hown, hts⟩ (c_X5_fail l D cA e0 A H1 b g1 tt n np hX1 hA (nI 1)) ⟨(callB_of 1 hts gi_X5_fail rfl rfl rfl (hts _ q_ini_X5) (hts _ q_ml_X5_66) hd_X5_fail ⟨Nat.le_of_ble_eq_true rfl, Nat.le_of_ble_eq_true rfl⟩), hts _ q_im_X5_fail, hts _ q_sel_X5_X5_fail⟩ (xpV hE hS (hX1.main) rfl) rfl rfl hl.1 rfl (lv_room (Nat.le_of_ble_eq_true rfl)) dX5_slot_39 ⟨Nat.le_of_ble_eq_true rfl, Nat.le_of_ble_eq_true rfl⟩) hS (fun q h => h) (fun r_2 H2 locs hP9 hz9 hk9 hS => ?_)
    obtain ⟨hr9, hXf⟩ := hP9
    have hXf : yW D cA b (thG g 1) tt n np H2 := by rw [← thG_2 g 0 1, ← hg1]; exact hXf
    have hpost : (fun r h => ((okS n v w ∧ okK 5 x) ∧ r = g (4 + cl x) (6 * cl v + cl w) ∧ yW D cA b (thG g 0) tt n np h) ∨ (¬ (okS n v w ∧ okK 5 x) ∧ yW D cA b (thG g 1) tt n np h)) (r_2) H2 := by
      exact Or.inr ⟨fun z => (is_ok (by omega)).mpr z.1 c11, hXf⟩
    refine W.widen (k := 0) (n := 0) (by omega) (by omega) ?_
    exact W.iret (v := r_2) hx hb hr (fun t ht _ => ⟨⟨r_2, H2, rfl, hpost, ht⟩, hS.F ht⟩) hS.2.2 dX5_slot_42
  · obtain ⟨i0, j0, hi0, hj0, rfl, rfl⟩ := (is_ok (by omega)).mp c11
    refine lv_iload_n hx hb dX5_slot_14 rfl (lv_at hl 3 rfl) ?_
    refine lv_iconst (v := nI 0) hx hb dX5_slot_15 (by decide) ?_
    refine lv_iconst (v := nI 5) hx hb dX5_slot_16 (by decide) ?_
    refine xcRi (va_runS (As := [.int (x), .int (nI 0), .int (nI 5)]) (rest := []) ⟨hx, hb, hml, hown, hts⟩ (c_X5_isIn l D cA e0 A H1 x (nI 0) (nI 5)) ⟨(callB_of 3 hts gi_X5_isIn rfl rfl rfl (hts _ q_ini_X5) (hts _ q_ml_X5_57) hd_X5_isIn ⟨Nat.le_of_ble_eq_true rfl, Nat.le_of_ble_eq_true rfl⟩), hts _ q_st_X5_isIn⟩ (xpS hE hS) rfl rfl hl.1 rfl (lv_room (Nat.le_of_ble_eq_true rfl)) dX5_slot_17 ⟨Nat.le_of_ble_eq_true rfl, Nat.le_of_ble_eq_true rfl⟩) ?_
    refine lv_if_eq (tgt := 37) hx hb dX5_slot_20 (by decide) (fun c20 => ?_) (fun c20 => ?_)
    · refine lv_aload_n hx hb dX5_slot_37 rfl (lv_at hl 0 rfl) ?_
      refine lv_iconst (v := nI 1) hx hb dX5_slot_38 (by decide) ?_
      refine xci (va_runV (As := [.int (nI 1)]) (rest := []) ⟨hx, hb, hml, hown, hts⟩ (c_X5_fail l D cA e0 A H1 b g1 tt n np hX1 hA (nI 1)) ⟨(callB_of 1 hts gi_X5_fail rfl rfl rfl (hts _ q_ini_X5) (hts _ q_ml_X5_66) hd_X5_fail ⟨Nat.le_of_ble_eq_true rfl, Nat.le_of_ble_eq_true rfl⟩), hts _ q_im_X5_fail, hts _ q_sel_X5_X5_fail⟩ (xpV hE hS (hX1.main) rfl) rfl rfl hl.1 rfl (lv_room (Nat.le_of_ble_eq_true rfl)) dX5_slot_39 ⟨Nat.le_of_ble_eq_true rfl, Nat.le_of_ble_eq_true rfl⟩) hS (fun q h => h) (fun r_3 H3 locs hP9 hz9 hk9 hS => ?_)
      obtain ⟨hr9, hXf⟩ := hP9
      have hXf : yW D cA b (thG g 1) tt n np H3 := by rw [← thG_2 g 0 1, ← hg1]; exact hXf
      have hpost : (fun r h => ((okS n (nI i0) (nI j0) ∧ okK 5 x) ∧ r = g (4 + cl x) (6 * cl (nI i0) + cl (nI j0)) ∧ yW D cA b (thG g 0) tt n np h) ∨ (¬ (okS n (nI i0) (nI j0) ∧ okK 5 x) ∧ yW D cA b (thG g 1) tt n np h)) (r_3) H3 := by
        exact Or.inr ⟨fun z => (in_0.mp c20) ((ou_k (by omega)).mpr z.2), hXf⟩
      refine W.widen (k := 0) (n := 0) (by omega) (by omega) ?_
      exact W.iret (v := r_3) hx hb hr (fun t ht _ => ⟨⟨r_3, H3, rfl, hpost, ht⟩, hS.F ht⟩) hS.2.2 dX5_slot_42
    · obtain ⟨x0, hx0, rfl⟩ := (ou_k (by omega)).mp (Decidable.byContradiction (fun z => c20 (in_0.mpr z)))
      refine lv_aload_n hx hb dX5_slot_23 rfl (lv_at hl 0 rfl) ?_
      refine lv_bipush (v := nI 6) hx hb dX5_slot_24 (by decide) ?_
      refine lv_iload_n hx hb dX5_slot_26 rfl (lv_at hl 1 rfl) ?_
      refine lv_imul hx hb dX5_slot_27 ?_
      refine xtop (show ((nI 6) * (nI (i0))) = nI (6 * i0) from pk_mul 6 i0) ?_
      refine lv_iload_n hx hb dX5_slot_28 rfl (lv_at hl 2 rfl) ?_
      refine lv_iadd hx hb dX5_slot_29 ?_
      refine xtop (show ((nI (6 * i0)) + (nI (j0))) = nI ((6 * i0) + j0) from nI_add (6 * i0) j0) ?_
      refine lv_iload_n hx hb dX5_slot_30 rfl (lv_at hl 3 rfl) ?_
      refine xcRi (va_runV (As := [.int (nI ((6 * i0) + j0)), .int (nI (x0))]) (rest := []) ⟨hx, hb, hml, hown, hts⟩ (c_X5_slotOf l D cA e0 A H1 b g1 tt n np hX1 (6 * i0 + j0) x0 (by omega) (by omega)) ⟨(callB_of 2 hts gi_X5_slotOf rfl rfl rfl (hts _ q_ini_X5) (hts _ q_ml_X5_89) hd_X5_slotOf ⟨Nat.le_of_ble_eq_true rfl, Nat.le_of_ble_eq_true rfl⟩), hts _ q_im_X5_slotOf, hts _ q_sel_X5_X5_slotOf⟩ (xpV hE hS (hX1.main) rfl) rfl rfl hl.1 rfl (lv_room (Nat.le_of_ble_eq_true rfl)) dX5_slot_31 ⟨Nat.le_of_ble_eq_true rfl, Nat.le_of_ble_eq_true rfl⟩) ?_
      refine lv_goto (tgt := 42) hx hb dX5_slot_34 (by decide) ?_
      have hpost : (fun r h => ((okS n (nI i0) (nI j0) ∧ okK 5 (nI x0)) ∧ r = g (4 + cl (nI x0)) (6 * cl (nI i0) + cl (nI j0)) ∧ yW D cA b (thG g 0) tt n np h) ∨ (¬ (okS n (nI i0) (nI j0) ∧ okK 5 (nI x0)) ∧ yW D cA b (thG g 1) tt n np h)) (g1 (4 + x0) (6 * i0 + j0)) H1 := by
        rw [cl_nI (n := i0) (by omega), cl_nI (n := j0) (by omega), cl_nI (n := x0) (by omega), ← hg1]
        exact Or.inl ⟨⟨⟨i0, j0, hi0, hj0, rfl, rfl⟩, x0, hx0, rfl⟩, by rw [hg1, thG_t g 0 (by omega)], hX1⟩
      refine W.widen (k := 0) (n := 0) (by omega) (by omega) ?_
      exact W.iret (v := (g1 (4 + x0) (6 * i0 + j0))) hx hb hr (fun t ht _ => ⟨⟨(g1 (4 + x0) (6 * i0 + j0)), H1, rfl, hpost, ht⟩, hS.F ht⟩) hS.2.2 dX5_slot_42
theorem machF_c {g g1 : Nat → Nat → Int32} (h : ∀ t, t < 10 → g1 t = g t) (i w : Nat) : machF g1 i w = machF g i w := by
  rcases w with _ | _ | _ | _ | w
  · exact congrFun (h 1 (by omega)) i
  · exact congrFun (h 0 (by omega)) i
  · exact lackF_c (h 4 (by omega)) (h 5 (by omega)) i
  · exact gainF_c (h 1 (by omega)) (h 4 (by omega)) (h 5 (by omega)) (h 6 (by omega)) i
  · exact congrFun (h 2 (by omega)) i
set_option maxHeartbeats 4000000 in
set_option maxRecDepth 100000 in
/-- model.machine -/
theorem c_X5_machine (l : Launch) (D : va_G) (cA : Nat → ClassId) (e0 : Nat) (A : Nat → Prop) (H0 : Heap) (b : Nat → Nat) (g : Nat → Nat → Int32) (tt : Nat → Int64) (n np : Nat) (hX : yW D cA b g tt n np H0) (hA : yA A b n np) (v x : Int32) : Met l yX5_machine w_X5_machine ({ frames := 2, cells := 0, slots := 0, locals := 45 } : Room) (xPc D cA e0 A H0 [.ref (b 0), .int (v), .int (x)]) (xQi (fun r h => ((okM n v ∧ okK 4 x) ∧ r = machF g (cl v) (cl x) ∧ yW D cA b (thG g 0) tt n np h) ∨ (¬ (okM n v ∧ okK 4 x) ∧ yW D cA b (thG g 1) tt n np h)) A) 0 0 (A) := by
  refine Met.ofW (cc := cX5_machine) (maxL := 3) (ret := (some .int)) (by decide) rfl ?_
  intro p e s m args below meth c s₁ B hml hv
  obtain ⟨rfl, hH, hE⟩ := hv
  subst hH
  have hx := B.exec
  have hb := B.bytes
  have hr := B.returns
  have hts := hE.1.all ([.ref (b 0), .int (v), .int (x)] : List Value).toArray
  have hown : s.vm.findClass RX5 = some m.cls := findClass_of_methodNamed B.named
  have hlocks := B.notSynchronized
  have hK := hE.2.1
  have hS : va_S A s.heap s.heap [] := va_S.rf
  have hl := lv_entry ([.ref (b 0), .int (v), .int (x)]) (n := 3) (Nat.le_of_ble_eq_true rfl)
  rw [lg_entry_eq]
  generalize (lg_sl ([.ref (b 0), .int (v), .int (x)]) ++ List.replicate (3 - (lg_sl ([.ref (b 0), .int (v), .int (x)])).length) Slot.unset).toArray = ls at hl ⊢
  have hl : lv_has ls 3 [(0, .ref (b 0)), (1, .int (v)), (2, .int (x))] := hl
  have hn8 := hA.2.2.1
  refine lv_aload_n hx hb dX5_machine_0 rfl (lv_at hl 0 rfl) ?_
  refine lv_iconst (v := nI 0) hx hb dX5_machine_1 (by decide) ?_
  refine xput (D := D) (ci := 6) (v := .int (nI 0)) (C := RX5) (T := TX5) (N := 17) hx hb hts qi_X5 tyX5 tyX5_ok nmX5 hown hK hS (hX.main) (hA.a (show 0 < 14 by omega)) rfl 0 (by decide) (hts _ q_fl_X5_50) (fun _ h9 => h9) rfl (tyX5_ok 0 (by decide)) rfl rfl (Nat.le_of_ble_eq_true rfl) dX5_machine_2 (fun H1 locs hU hS => ?_)
  obtain ⟨g1, hg1⟩ : ∃ z, z = thG g 0 := ⟨_, rfl⟩
  have hX1 : yW D cA b g1 tt n np H1 := by rw [hg1]; exact hX.pthr hA hU
  refine lv_aload_n hx hb dX5_machine_5 rfl (lv_at hl 0 rfl) ?_
  refine lv_iload_n hx hb dX5_machine_6 rfl (lv_at hl 1 rfl) ?_
  refine xcRi (va_runV (As := [.int (v)]) (rest := []) ⟨hx, hb, hml, hown, hts⟩ (c_X5_isMachine l D cA e0 A H1 b g1 tt n np hX1 v) ⟨(callB_of 1 hts gi_X5_isMachine rfl rfl rfl (hts _ q_ini_X5) (hts _ q_ml_X5_61) hd_X5_isMachine ⟨Nat.le_of_ble_eq_true rfl, Nat.le_of_ble_eq_true rfl⟩), hts _ q_im_X5_isMachine, hts _ q_sel_X5_X5_isMachine⟩ (xpV hE hS (hX1.main) rfl) rfl rfl hl.1 rfl (lv_room (Nat.le_of_ble_eq_true rfl)) dX5_machine_7 ⟨Nat.le_of_ble_eq_true rfl, Nat.le_of_ble_eq_true rfl⟩) ?_
  refine lv_if_eq (tgt := 31) hx hb dX5_machine_10 (by decide) (fun c10 => ?_) (fun c10 => ?_)
  · refine lv_aload_n hx hb dX5_machine_31 rfl (lv_at hl 0 rfl) ?_
    refine lv_iconst (v := nI 1) hx hb dX5_machine_32 (by decide) ?_
    refine xci (va_runV (As := [.int (nI 1)]) (rest := []) ⟨hx, hb, hml, hown, hts⟩ (c_X5_fail l D cA e0 A H1 b g1 tt n np hX1 hA (nI 1)) ⟨(callB_of 1 hts gi_X5_fail rfl rfl rfl (hts _ q_ini_X5) (hts _ q_ml_X5_66) hd_X5_fail ⟨Nat.le_of_ble_eq_true rfl, Nat.le_of_ble_eq_true rfl⟩), hts _ q_im_X5_fail, hts _ q_sel_X5_X5_fail⟩ (xpV hE hS (hX1.main) rfl) rfl rfl hl.1 rfl (lv_room (Nat.le_of_ble_eq_true rfl)) dX5_machine_33 ⟨Nat.le_of_ble_eq_true rfl, Nat.le_of_ble_eq_true rfl⟩) hS (fun q h => h) (fun r_2 H2 locs hP9 hz9 hk9 hS => ?_)
    obtain ⟨hr9, hXf⟩ := hP9
    have hXf : yW D cA b (thG g 1) tt n np H2 := by rw [← thG_2 g 0 1, ← hg1]; exact hXf
    have hpost : (fun r h => ((okM n v ∧ okK 4 x) ∧ r = machF g (cl v) (cl x) ∧ yW D cA b (thG g 0) tt n np h) ∨ (¬ (okM n v ∧ okK 4 x) ∧ yW D cA b (thG g 1) tt n np h)) (r_2) H2 := by
      exact Or.inr ⟨fun z => (in_0.mp c10) ((ou_m (by omega)).mpr z.1), hXf⟩
    refine W.widen (k := 0) (n := 0) (by omega) (by omega) ?_
    exact W.iret (v := r_2) hx hb hr (fun t ht _ => ⟨⟨r_2, H2, rfl, hpost, ht⟩, hS.F ht⟩) hS.2.2 dX5_machine_36
  · obtain ⟨i0, hi0, rfl⟩ := (ou_m (by omega)).mp (Decidable.byContradiction (fun z => c10 (in_0.mpr z)))
    refine lv_iload_n hx hb dX5_machine_13 rfl (lv_at hl 2 rfl) ?_
    refine lv_iconst (v := nI 0) hx hb dX5_machine_14 (by decide) ?_
    refine lv_iconst (v := nI 4) hx hb dX5_machine_15 (by decide) ?_
    refine xcRi (va_runS (As := [.int (x), .int (nI 0), .int (nI 4)]) (rest := []) ⟨hx, hb, hml, hown, hts⟩ (c_X5_isIn l D cA e0 A H1 x (nI 0) (nI 4)) ⟨(callB_of 3 hts gi_X5_isIn rfl rfl rfl (hts _ q_ini_X5) (hts _ q_ml_X5_57) hd_X5_isIn ⟨Nat.le_of_ble_eq_true rfl, Nat.le_of_ble_eq_true rfl⟩), hts _ q_st_X5_isIn⟩ (xpS hE hS) rfl rfl hl.1 rfl (lv_room (Nat.le_of_ble_eq_true rfl)) dX5_machine_16 ⟨Nat.le_of_ble_eq_true rfl, Nat.le_of_ble_eq_true rfl⟩) ?_
    refine lv_if_eq (tgt := 31) hx hb dX5_machine_19 (by decide) (fun c19 => ?_) (fun c19 => ?_)
    · refine lv_aload_n hx hb dX5_machine_31 rfl (lv_at hl 0 rfl) ?_
      refine lv_iconst (v := nI 1) hx hb dX5_machine_32 (by decide) ?_
      refine xci (va_runV (As := [.int (nI 1)]) (rest := []) ⟨hx, hb, hml, hown, hts⟩ (c_X5_fail l D cA e0 A H1 b g1 tt n np hX1 hA (nI 1)) ⟨(callB_of 1 hts gi_X5_fail rfl rfl rfl (hts _ q_ini_X5) (hts _ q_ml_X5_66) hd_X5_fail ⟨Nat.le_of_ble_eq_true rfl, Nat.le_of_ble_eq_true rfl⟩), hts _ q_im_X5_fail, hts _ q_sel_X5_X5_fail⟩ (xpV hE hS (hX1.main) rfl) rfl rfl hl.1 rfl (lv_room (Nat.le_of_ble_eq_true rfl)) dX5_machine_33 ⟨Nat.le_of_ble_eq_true rfl, Nat.le_of_ble_eq_true rfl⟩) hS (fun q h => h) (fun r_3 H3 locs hP9 hz9 hk9 hS => ?_)
      obtain ⟨hr9, hXf⟩ := hP9
      have hXf : yW D cA b (thG g 1) tt n np H3 := by rw [← thG_2 g 0 1, ← hg1]; exact hXf
      have hpost : (fun r h => ((okM n (nI i0) ∧ okK 4 x) ∧ r = machF g (cl (nI i0)) (cl x) ∧ yW D cA b (thG g 0) tt n np h) ∨ (¬ (okM n (nI i0) ∧ okK 4 x) ∧ yW D cA b (thG g 1) tt n np h)) (r_3) H3 := by
        exact Or.inr ⟨fun z => (in_0.mp c19) ((ou_k (by omega)).mpr z.2), hXf⟩
      refine W.widen (k := 0) (n := 0) (by omega) (by omega) ?_
      exact W.iret (v := r_3) hx hb hr (fun t ht _ => ⟨⟨r_3, H3, rfl, hpost, ht⟩, hS.F ht⟩) hS.2.2 dX5_machine_36
    · obtain ⟨x0, hx0, rfl⟩ := (ou_k (by omega)).mp (Decidable.byContradiction (fun z => c19 (in_0.mpr z)))
      refine lv_aload_n hx hb dX5_machine_22 rfl (lv_at hl 0 rfl) ?_
      refine lv_iload_n hx hb dX5_machine_23 rfl (lv_at hl 1 rfl) ?_
      refine lv_iload_n hx hb dX5_machine_24 rfl (lv_at hl 2 rfl) ?_
      refine xcRi (va_runV (As := [.int (nI (i0)), .int (nI (x0))]) (rest := []) ⟨hx, hb, hml, hown, hts⟩ (c_X5_told l D cA e0 A H1 b g1 tt n np hX1 hn8 i0 (by omega) x0 (by omega)) ⟨(callB_of 2 hts gi_X5_told rfl rfl rfl (hts _ q_ini_X5) (hts _ q_ml_X5_98) hd_X5_told ⟨Nat.le_of_ble_eq_true rfl, Nat.le_of_ble_eq_true rfl⟩), hts _ q_im_X5_told, hts _ q_sel_X5_X5_told⟩ (xpV hE hS (hX1.main) rfl) rfl rfl hl.1 rfl (lv_room (Nat.le_of_ble_eq_true rfl)) dX5_machine_25 ⟨Nat.le_of_ble_eq_true rfl, Nat.le_of_ble_eq_true rfl⟩) ?_
      refine lv_goto (tgt := 36) hx hb dX5_machine_28 (by decide) ?_
      have hpost : (fun r h => ((okM n (nI i0) ∧ okK 4 (nI x0)) ∧ r = machF g (cl (nI i0)) (cl (nI x0)) ∧ yW D cA b (thG g 0) tt n np h) ∨ (¬ (okM n (nI i0) ∧ okK 4 (nI x0)) ∧ yW D cA b (thG g 1) tt n np h)) (machF g1 i0 x0) H1 := by
        rw [cl_nI (n := i0) (by omega), cl_nI (n := x0) (by omega), ← hg1]
        exact Or.inl ⟨⟨⟨i0, hi0, rfl⟩, x0, hx0, rfl⟩, by rw [hg1]; exact machF_c (fun t ht => thG_t g 0 (by omega)) i0 x0, hX1⟩
      refine W.widen (k := 0) (n := 0) (by omega) (by omega) ?_
      exact W.iret (v := (machF g1 i0 x0)) hx hb hr (fun t ht _ => ⟨⟨(machF g1 i0 x0), H1, rfl, hpost, ht⟩, hS.F ht⟩) hS.2.2 dX5_machine_36
set_option maxHeartbeats 4000000 in
set_option maxRecDepth 100000 in
/-- model.total -/
theorem c_X5_total (l : Launch) (D : va_G) (cA : Nat → ClassId) (e0 : Nat) (A : Nat → Prop) (H0 : Heap) (b : Nat → Nat) (g : Nat → Nat → Int32) (tt : Nat → Int64) (n np : Nat) (hX : yW D cA b g tt n np H0) (hA : yA A b n np) (x : Int32) : Met l yX5_total w_X5_total ({ frames := 1, cells := 0, slots := 0, locals := 22 } : Room) (xPc D cA e0 A H0 [.ref (b 0), .int (x)]) (xQl (fun r h => (okK 3 x ∧ r = tt (cl x) ∧ yW D cA b (thG g 0) tt n np h) ∨ (¬ okK 3 x ∧ yW D cA b (thG g 1) tt n np h)) A) 0 0 (A) := by
  refine Met.ofW (cc := cX5_total) (maxL := 2) (ret := (some .long)) (by decide) rfl ?_
  intro p e s m args below meth c s₁ B hml hv
  obtain ⟨rfl, hH, hE⟩ := hv
  subst hH
  have hx := B.exec
  have hb := B.bytes
  have hr := B.returns
  have hts := hE.1.all ([.ref (b 0), .int (x)] : List Value).toArray
  have hown : s.vm.findClass RX5 = some m.cls := findClass_of_methodNamed B.named
  have hlocks := B.notSynchronized
  have hK := hE.2.1
  have hS : va_S A s.heap s.heap [] := va_S.rf
  have hl := lv_entry ([.ref (b 0), .int (x)]) (n := 2) (Nat.le_of_ble_eq_true rfl)
  rw [lg_entry_eq]
  generalize (lg_sl ([.ref (b 0), .int (x)]) ++ List.replicate (2 - (lg_sl ([.ref (b 0), .int (x)])).length) Slot.unset).toArray = ls at hl ⊢
  have hl : lv_has ls 2 [(0, .ref (b 0)), (1, .int (x))] := hl
  have hn8 := hA.2.2.1
  refine lv_aload_n hx hb dX5_total_0 rfl (lv_at hl 0 rfl) ?_
  refine lv_iload_n hx hb dX5_total_1 rfl (lv_at hl 1 rfl) ?_
  refine lv_iconst (v := nI 0) hx hb dX5_total_2 (by decide) ?_
  refine lv_iconst (v := nI 3) hx hb dX5_total_3 (by decide) ?_
  refine xcRi (va_runS (As := [.int (x), .int (nI 0), .int (nI 3)]) (rest := [.ref (b 0)]) ⟨hx, hb, hml, hown, hts⟩ (c_X5_isIn l D cA e0 A s.heap x (nI 0) (nI 3)) ⟨(callB_of 3 hts gi_X5_isIn rfl rfl rfl (hts _ q_ini_X5) (hts _ q_ml_X5_57) hd_X5_isIn ⟨Nat.le_of_ble_eq_true rfl, Nat.le_of_ble_eq_true rfl⟩), hts _ q_st_X5_isIn⟩ (xpS hE hS) rfl rfl hl.1 rfl (lv_room (Nat.le_of_ble_eq_true rfl)) dX5_total_4 ⟨Nat.le_of_ble_eq_true rfl, Nat.le_of_ble_eq_true rfl⟩) ?_
  refine lv_if_eq (tgt := 14) hx hb dX5_total_7 (by decide) (fun c7 => ?_) (fun c7 => ?_)
  · refine lv_iconst (v := nI 1) hx hb dX5_total_14 (by decide) ?_
    refine xput (D := D) (ci := 6) (v := .int (nI 1)) (C := RX5) (T := TX5) (N := 17) hx hb hts qi_X5 tyX5 tyX5_ok nmX5 hown hK hS (hX.main) (hA.a (show 0 < 14 by omega)) rfl 0 (by decide) (hts _ q_fl_X5_50) (fun _ h9 => h9) rfl (tyX5_ok 0 (by decide)) rfl rfl (Nat.le_of_ble_eq_true rfl) dX5_total_15 (fun H1 locs hU hS => ?_)
    obtain ⟨g1, hg1⟩ : ∃ z, z = thG g 1 := ⟨_, rfl⟩
    have hX1 : yW D cA b g1 tt n np H1 := by rw [hg1]; exact hX.pthr hA hU
    have h20 : g1 20 0 = nI 1 := by rw [hg1]; exact thG_20 g 1
    refine lv_aload_n hx hb dX5_total_18 rfl (lv_at hl 0 rfl) ?_
    refine va_get (D := D) (ci := 6) (v := .int (g1 20 0)) (C := RX5) (T := TX5) (N := 17) hx hb hts qi_X5 hown hK (xP1 (hX1.main)) 0 rfl rfl 0 (by decide) (hts _ q_fl_X5_50) (fun _ h9 => h9) rfl dX5_total_19 ?_
    refine lv_if_ne (tgt := 34) hx hb dX5_total_22 (by decide) (fun _ => ?_) (fun hno => absurd hno (fun z => absurd (h20.symm.trans z) (by decide)))
    refine lv_lconst (v := 0) hx hb dX5_total_34 (by decide) ?_
    have hpost : (fun r h => (okK 3 x ∧ r = tt (cl x) ∧ yW D cA b (thG g 0) tt n np h) ∨ (¬ okK 3 x ∧ yW D cA b (thG g 1) tt n np h)) (0) H1 := by
      rw [← hg1]
      exact Or.inr ⟨fun z => (in_0.mp c7) ((ou_k (by omega)).mpr z), hX1⟩
    refine W.widen (k := 0) (n := 0) (by omega) (by omega) ?_
    exact W.lret (v := 0) hx hb hr (fun t ht _ => ⟨⟨0, H1, rfl, hpost, ht⟩, hS.F ht⟩) hS.2.2 dX5_total_35
  · obtain ⟨x0, hx0, rfl⟩ := (ou_k (by omega)).mp (Decidable.byContradiction (fun z => c7 (in_0.mpr z)))
    refine lv_iconst (v := nI 0) hx hb dX5_total_10 (by decide) ?_
    refine lv_goto (tgt := 15) hx hb dX5_total_11 (by decide) ?_
    refine xput (D := D) (ci := 6) (v := .int (nI 0)) (C := RX5) (T := TX5) (N := 17) hx hb hts qi_X5 tyX5 tyX5_ok nmX5 hown hK hS (hX.main) (hA.a (show 0 < 14 by omega)) rfl 0 (by decide) (hts _ q_fl_X5_50) (fun _ h9 => h9) rfl (tyX5_ok 0 (by decide)) rfl rfl (Nat.le_of_ble_eq_true rfl) dX5_total_15 (fun H2 locs hU hS => ?_)
    obtain ⟨g1, hg1⟩ : ∃ z, z = thG g 0 := ⟨_, rfl⟩
    have hX1 : yW D cA b g1 tt n np H2 := by rw [hg1]; exact hX.pthr hA hU
    have h20 : g1 20 0 = nI 0 := by rw [hg1]; exact thG_20 g 0
    refine lv_aload_n hx hb dX5_total_18 rfl (lv_at hl 0 rfl) ?_
    refine va_get (D := D) (ci := 6) (v := .int (g1 20 0)) (C := RX5) (T := TX5) (N := 17) hx hb hts qi_X5 hown hK (xP1 (hX1.main)) 0 rfl rfl 0 (by decide) (hts _ q_fl_X5_50) (fun _ h9 => h9) rfl dX5_total_19 ?_
    refine lv_if_ne (tgt := 34) hx hb dX5_total_22 (by decide) (fun hno => absurd hno (fun z => z (by rw [h20]; rfl))) (fun _ => ?_)
    refine lv_aload_n hx hb dX5_total_25 rfl (lv_at hl 0 rfl) ?_
    refine va_get (D := D) (ci := 6) (v := .ref (b 12)) (C := RX5) (T := TX5) (N := 17) hx hb hts qi_X5 hown hK (xP1 (hX1.main)) 0 rfl rfl 15 (by decide) (hts _ q_fl_X5_43) (fun _ h9 => h9) rfl dX5_total_26 ?_
    refine lv_iload_n hx hb dX5_total_29 rfl (lv_at hl 1 rfl) ?_
    refine va_lald hx hb hK (xP1 (hX1.tot)) 0 1 rfl rfl (i := nI (x0)) (vp_in_nI (n := x0) (by omega) (by omega)) dX5_total_30 ?_
    refine xtopL (show ((fun z => tt (z)) (nI (x0)).toNatClampNeg) = tt (x0) from by rw [nI_clamp (n := x0) (by omega)]) ?_
    refine lv_goto (tgt := 35) hx hb dX5_total_31 (by decide) ?_
    have hpost : (fun r h => (okK 3 (nI x0) ∧ r = tt (cl (nI x0)) ∧ yW D cA b (thG g 0) tt n np h) ∨ (¬ okK 3 (nI x0) ∧ yW D cA b (thG g 1) tt n np h)) (tt (x0)) H2 := by
      rw [cl_nI (n := x0) (by omega), ← hg1]
      exact Or.inl ⟨⟨x0, hx0, rfl⟩, rfl, hX1⟩
    refine W.widen (k := 0) (n := 0) (by omega) (by omega) ?_
    exact W.lret (v := (tt (x0))) hx hb hr (fun t ht _ => ⟨⟨(tt (x0)), H2, rfl, hpost, ht⟩, hS.F ht⟩) hS.2.2 dX5_total_35
