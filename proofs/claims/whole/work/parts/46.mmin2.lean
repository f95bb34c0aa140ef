/-! The model: minutes, days (by p46.py) -/
theorem rtF_c {g g2 : Nat → Nat → Int32} {k : Nat} (h : eqY g g2 k) (S : Nat) : rtF g2 S = rtF g S := by
  unfold rtF
  rw [wy_c (h.1 3 (by omega) (by omega)), show vtF g2 = vtF g from funext fun i => vtF_c (h.1 4 (by omega) (by omega)) (h.1 5 (by omega) (by omega)) i]
set_option maxHeartbeats 4000000 in
set_option maxRecDepth 100000 in
/-- model.minutes -/
theorem c_X5_minutes (l : Launch) (D : va_G) (cA : Nat → ClassId) (e0 : Nat) (A : Nat → Prop) (H0 : Heap) (b : Nat → Nat) (g : Nat → Nat → Int32) (tt : Nat → Int64) (n np : Nat) (hX : yW D cA b g tt n np H0) (hA : yA A b n np) (v : Int32) : Met l yX5_minutes w_X5_minutes ({ frames := 2, cells := 0, slots := 0, locals := 47 } : Room) (xPc D cA e0 A H0 [.ref (b 0), .int (v)]) (xQi (fun r h => (okT n v ∧ r = rtF g (cl v) ∧ ∃ g2, yW D cA b g2 tt n np h ∧ eqY g g2 0) ∨ (¬ okT n v ∧ yW D cA b (thG g 1) tt n np h)) A) 0 0 (A) := by
  refine Met.ofW (cc := cX5_minutes) (maxL := 2) (ret := (some .int)) (by decide) rfl ?_
  intro p e s m args below meth c s₁ B hml hv
  obtain ⟨rfl, hH, hE⟩ := hv
  subst hH
  have hx := B.exec
  have hb := B.bytes
  have hr := B.returns
  have hts := hE.1.all ([.ref (b 0), .int (v)] : List Value).toArray
  have hown : s.vm.findClass RX5 = some m.cls := findClass_of_methodNamed B.named
  have hlocks := B.notSynchronized
  have hK := hE.2.1
  have hS : va_S A s.heap s.heap [] := va_S.rf
  have hl := lv_entry ([.ref (b 0), .int (v)]) (n := 2) (Nat.le_of_ble_eq_true rfl)
  rw [lg_entry_eq]
  generalize (lg_sl ([.ref (b 0), .int (v)]) ++ List.replicate (2 - (lg_sl ([.ref (b 0), .int (v)])).length) Slot.unset).toArray = ls at hl ⊢
  have hl : lv_has ls 2 [(0, .ref (b 0)), (1, .int (v))] := hl
  have hn8 := hA.2.2.1
  refine lv_aload_n hx hb dX5_minutes_0 rfl (lv_at hl 0 rfl) ?_
  refine lv_iconst (v := nI 0) hx hb dX5_minutes_1 (by decide) ?_
  refine xput (D := D) (ci := 6) (v := .int (nI 0)) (C := RX5) (T := TX5) (N := 17) hx hb hts qi_X5 tyX5 tyX5_ok nmX5 hown hK hS (hX.main) (hA.a (show 0 < 14 by omega)) rfl 0 (by decide) (hts _ q_fl_X5_50) (fun _ h9 => h9) rfl (tyX5_ok 0 (by decide)) rfl rfl (Nat.le_of_ble_eq_true rfl) dX5_minutes_2 (fun H1 locs hU hS => ?_)
  obtain ⟨g1, hg1⟩ : ∃ z, z = thG g 0 := ⟨_, rfl⟩
  have hX1 : yW D cA b g1 tt n np H1 := by rw [hg1]; exact hX.pthr hA hU
  refine lv_aload_n hx hb dX5_minutes_5 rfl (lv_at hl 0 rfl) ?_
  refine lv_iload_n hx hb dX5_minutes_6 rfl (lv_at hl 1 rfl) ?_
  refine xcRi (va_runV (As := [.int (v)]) (rest := []) ⟨hx, hb, hml, hown, hts⟩ (c_X5_areMachines l D cA e0 A H1 b g1 tt n np hX1 hn8 v) ⟨(callB_of 1 hts gi_X5_areMachines rfl rfl rfl (hts _ q_ini_X5) (hts _ q_ml_X5_116) hd_X5_areMachines ⟨Nat.le_of_ble_eq_true rfl, Nat.le_of_ble_eq_true rfl⟩), hts _ q_im_X5_areMachines, hts _ q_sel_X5_X5_areMachines⟩ (xpV hE hS (hX1.main) rfl) rfl rfl hl.1 rfl (lv_room (Nat.le_of_ble_eq_true rfl)) dX5_minutes_7 ⟨Nat.le_of_ble_eq_true rfl, Nat.le_of_ble_eq_true rfl⟩) ?_
  refine lv_if_ne (tgt := 19) hx hb dX5_minutes_10 (by decide) (fun c10 => ?_) (fun c10 => ?_)
  · obtain ⟨S, hS2, rfl⟩ := (okT_k hn8).mp (Decidable.byContradiction (fun z => c10 (in_0.mpr z)))
    have hSt : S < 256 := Nat.lt_of_lt_of_le hS2 (pow256 hn8)
    refine lv_aload_n hx hb dX5_minutes_19 rfl (lv_at hl 0 rfl) ?_
    refine lv_iload_n hx hb dX5_minutes_20 rfl (lv_at hl 1 rfl) ?_
    refine xcv (va_runV (As := [.int (nI (S))]) (rest := []) ⟨hx, hb, hml, hown, hts⟩ (c_X5_tabulate l D cA e0 A H1 b g1 tt n np hX1 hA S hSt) ⟨(callB_of 1 hts gi_X5_tabulate rfl rfl rfl (hts _ q_ini_X5) (hts _ q_ml_X5_119) hd_X5_tabulate ⟨Nat.le_of_ble_eq_true rfl, Nat.le_of_ble_eq_true rfl⟩), hts _ q_im_X5_tabulate, hts _ q_sel_X5_X5_tabulate⟩ (xpV hE hS (hX1.main) rfl) rfl rfl hl.1 rfl (lv_room (Nat.le_of_ble_eq_true rfl)) dX5_minutes_21 ⟨Nat.le_of_ble_eq_true rfl, Nat.le_of_ble_eq_true rfl⟩) hS (fun q h => h) (fun H2 locs hP9 hz9 hk9 hS => ?_)
    obtain ⟨gB, hXB, hkB, hrB⟩ := hP9
    have heB : eqY g gB 0 := eqY_22 (by rw [hg1]; exact eqY_th g 0) hkB
    have hwB : wy gB = wy g := wy_c (heB.1 3 (by omega) (by omega))
    refine lv_aload_n hx hb dX5_minutes_24 rfl (lv_at hl 0 rfl) ?_
    refine lv_iload_n hx hb dX5_minutes_25 rfl (lv_at hl 1 rfl) ?_
    refine xcRi (va_runV (As := [.int (nI (S))]) (rest := []) ⟨hx, hb, hml, hown, hts⟩ (c_X5_minutesOf l D cA e0 A H2 b gB tt n np hXB hn8 S hS2 (hrB S (Nat.le_refl _))) ⟨(callB_of 1 hts gi_X5_minutesOf rfl rfl rfl (hts _ q_ini_X5) (hts _ q_ml_X5_129) hd_X5_minutesOf ⟨Nat.le_of_ble_eq_true rfl, Nat.le_of_ble_eq_true rfl⟩), hts _ q_im_X5_minutesOf, hts _ q_sel_X5_X5_minutesOf⟩ (xpV hE hS (hXB.main) rfl) rfl rfl hl.1 rfl (lv_room (Nat.le_of_ble_eq_true rfl)) dX5_minutes_26 ⟨Nat.le_of_ble_eq_true rfl, Nat.le_of_ble_eq_true rfl⟩) ?_
    refine xtop (show (rtF gB S) = rtF g S from rtF_c heB S) ?_
    have hpost : (fun r h => (okT n (nI S) ∧ r = rtF g (cl (nI S)) ∧ ∃ g2, yW D cA b g2 tt n np h ∧ eqY g g2 0) ∨ (¬ okT n (nI S) ∧ yW D cA b (thG g 1) tt n np h)) (rtF g S) H2 := by
      rw [cl_nI (n := S) (by omega)]
      exact Or.inl ⟨⟨S, hS2, rfl⟩, rfl, gB, hXB, heB⟩
    refine W.widen (k := 0) (n := 0) (by omega) (by omega) ?_
    exact W.iret (v := (rtF g S)) hx hb hr (fun t ht _ => ⟨⟨(rtF g S), H2, rfl, hpost, ht⟩, hS.F ht⟩) hS.2.2 dX5_minutes_29
  · refine lv_aload_n hx hb dX5_minutes_13 rfl (lv_at hl 0 rfl) ?_
    refine lv_iconst (v := nI 1) hx hb dX5_minutes_14 (by decide) ?_
    refine xci (va_runV (As := [.int (nI 1)]) (rest := []) ⟨hx, hb, hml, hown, hts⟩ (c_X5_fail l D cA e0 A H1 b g1 tt n np hX1 hA (nI 1)) ⟨(callB_of 1 hts gi_X5_fail rfl rfl rfl (hts _ q_ini_X5) (hts _ q_ml_X5_66) hd_X5_fail ⟨Nat.le_of_ble_eq_true rfl, Nat.le_of_ble_eq_true rfl⟩), hts _ q_im_X5_fail, hts _ q_sel_X5_X5_fail⟩ (xpV hE hS (hX1.main) rfl) rfl rfl hl.1 rfl (lv_room (Nat.le_of_ble_eq_true rfl)) dX5_minutes_15 ⟨Nat.le_of_ble_eq_true rfl, Nat.le_of_ble_eq_true rfl⟩) hS (fun q h => h) (fun r_3 H3 locs hP9 hz9 hk9 hS => ?_)
    obtain ⟨hr9, hXf⟩ := hP9
    have hXf : yW D cA b (thG g 1) tt n np H3 := by rw [← thG_2 g 0 1, ← hg1]; exact hXf
    have hpost : (fun r h => (okT n v ∧ r = rtF g (cl v) ∧ ∃ g2, yW D cA b g2 tt n np h ∧ eqY g g2 0) ∨ (¬ okT n v ∧ yW D cA b (thG g 1) tt n np h)) (r_3) H3 := by
      exact Or.inr ⟨fun z => (in_0.mp c10) ((okT_k hn8).mpr z), hXf⟩
    refine W.widen (k := 0) (n := 0) (by omega) (by omega) ?_
    exact W.iret (v := r_3) hx hb hr (fun t ht _ => ⟨⟨r_3, H3, rfl, hpost, ht⟩, hS.F ht⟩) hS.2.2 dX5_minutes_18
