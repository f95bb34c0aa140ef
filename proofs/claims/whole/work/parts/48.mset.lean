/-! The model: a slot set (by p48.py) -/
set_option maxHeartbeats 4000000 in
set_option maxRecDepth 100000 in
/-- model.setSlot -/
theorem c_X5_setSlot (l : Launch) (D : va_G) (cA : Nat → ClassId) (e0 : Nat) (A : Nat → Prop) (H0 : Heap) (b : Nat → Nat) (g : Nat → Nat → Int32) (tt : Nat → Int64) (n np : Nat) (hX : yW D cA b g tt n np H0) (hA : yA A b n np) (v w x y : Int32) : Met l yX5_setSlot w_X5_setSlot ({ frames := 3, cells := 0, slots := 0, locals := 65 } : Room) (xPc D cA e0 A H0 [.ref (b 0), .int (v), .int (w), .int (x), .int (y)]) (xQi (fun r h => ((okS n v w ∧ okR 0 30 x ∧ okR 0 20 y) ∧ r = g 4 (6 * cl v + cl w) ∧ ∃ g2, yW D cA b g2 tt n np h ∧ eqY (ssF g (6 * cl v + cl w) x y) g2 0) ∨ (¬ okS n v w ∧ yW D cA b (thG g 1) tt n np h) ∨ (okS n v w ∧ ¬ (okR 0 30 x ∧ okR 0 20 y) ∧ yW D cA b (thG g 2) tt n np h)) A) 0 0 (A) := by
  refine Met.ofW (cc := cX5_setSlot) (maxL := 7) (ret := (some .int)) (by decide) rfl ?_
  intro p e s m args below meth c s₁ B hml hv
  obtain ⟨rfl, hH, hE⟩ := hv
  subst hH
  have hx := B.exec
  have hb := B.bytes
  have hr := B.returns
  have hts := hE.1.all ([.ref (b 0), .int (v), .int (w), .int (x), .int (y)] : List Value).toArray
  have hown : s.vm.findClass RX5 = some m.cls := findClass_of_methodNamed B.named
  have hlocks := B.notSynchronized
  have hK := hE.2.1
  have hS : va_S A s.heap s.heap [] := va_S.rf
  have hl := lv_entry ([.ref (b 0), .int (v), .int (w), .int (x), .int (y)]) (n := 7) (Nat.le_of_ble_eq_true rfl)
  rw [lg_entry_eq]
  generalize (lg_sl ([.ref (b 0), .int (v), .int (w), .int (x), .int (y)]) ++ List.replicate (7 - (lg_sl ([.ref (b 0), .int (v), .int (w), .int (x), .int (y)])).length) Slot.unset).toArray = ls at hl ⊢
  have hl : lv_has ls 7 [(0, .ref (b 0)), (1, .int (v)), (2, .int (w)), (3, .int (x)), (4, .int (y))] := hl
  have hn8 := hA.2.2.1
  refine lv_aload_n hx hb dX5_setSlot_0 rfl (lv_at hl 0 rfl) ?_
  refine lv_iconst (v := nI 0) hx hb dX5_setSlot_1 (by decide) ?_
  refine xput (D := D) (ci := 6) (v := .int (nI 0)) (C := RX5) (T := TX5) (N := 17) hx hb hts qi_X5 tyX5 tyX5_ok nmX5 hown hK hS (hX.main) (hA.a (show 0 < 14 by omega)) rfl 0 (by decide) (hts _ q_fl_X5_50) (fun _ h9 => h9) rfl (tyX5_ok 0 (by decide)) rfl rfl (Nat.le_of_ble_eq_true rfl) dX5_setSlot_2 (fun H1 locs hU hS => ?_)
  obtain ⟨g1, hg1⟩ : ∃ z, z = thG g 0 := ⟨_, rfl⟩
  have hX1 : yW D cA b g1 tt n np H1 := by rw [hg1]; exact hX.pthr hA hU
  refine lv_aload_n hx hb dX5_setSlot_5 rfl (lv_at hl 0 rfl) ?_
  refine lv_iload_n hx hb dX5_setSlot_6 rfl (lv_at hl 1 rfl) ?_
  refine lv_iload_n hx hb dX5_setSlot_7 rfl (lv_at hl 2 rfl) ?_
  refine xcRi (va_runV (As := [.int (v), .int (w)]) (rest := []) ⟨hx, hb, hml, hown, hts⟩ (c_X5_isSlot l D cA e0 A H1 b g1 tt n np hX1 v w) ⟨(callB_of 2 hts gi_X5_isSlot rfl rfl rfl (hts _ q_ini_X5) (hts _ q_ml_X5_74) hd_X5_isSlot ⟨Nat.le_of_ble_eq_true rfl, Nat.le_of_ble_eq_true rfl⟩), hts _ q_im_X5_isSlot, hts _ q_sel_X5_X5_isSlot⟩ (xpV hE hS (hX1.main) rfl) rfl rfl hl.1 rfl (lv_room (Nat.le_of_ble_eq_true rfl)) dX5_setSlot_8 ⟨Nat.le_of_ble_eq_true rfl, Nat.le_of_ble_eq_true rfl⟩) ?_
  refine lv_if_ne (tgt := 20) hx hb dX5_setSlot_11 (by decide) (fun c11 => ?_) (fun c11 => ?_)
  · obtain ⟨i0, j0, hi0, hj0, rfl, rfl⟩ := (is_ok (by omega)).mp c11
    refine lv_iload_n hx hb dX5_setSlot_20 rfl (lv_at hl 3 rfl) ?_
    refine lv_iconst (v := nI 0) hx hb dX5_setSlot_21 (by decide) ?_
    refine lv_bipush (v := nI 30) hx hb dX5_setSlot_22 (by decide) ?_
    refine xcRi (va_runS (As := [.int (x), .int (nI 0), .int (nI 30)]) (rest := []) ⟨hx, hb, hml, hown, hts⟩ (c_X5_isIn l D cA e0 A H1 x (nI 0) (nI 30)) ⟨(callB_of 3 hts gi_X5_isIn rfl rfl rfl (hts _ q_ini_X5) (hts _ q_ml_X5_57) hd_X5_isIn ⟨Nat.le_of_ble_eq_true rfl, Nat.le_of_ble_eq_true rfl⟩), hts _ q_st_X5_isIn⟩ (xpS hE hS) rfl rfl hl.1 rfl (lv_room (Nat.le_of_ble_eq_true rfl)) dX5_setSlot_24 ⟨Nat.le_of_ble_eq_true rfl, Nat.le_of_ble_eq_true rfl⟩) ?_
    refine lv_if_eq (tgt := 41) hx hb dX5_setSlot_27 (by decide) (fun c27 => ?_) (fun c27 => ?_)
    · refine lv_aload_n hx hb dX5_setSlot_41 rfl (lv_at hl 0 rfl) ?_
      refine lv_iconst (v := nI 2) hx hb dX5_setSlot_42 (by decide) ?_
      refine xci (va_runV (As := [.int (nI 2)]) (rest := []) ⟨hx, hb, hml, hown, hts⟩ (c_X5_fail l D cA e0 A H1 b g1 tt n np hX1 hA (nI 2)) ⟨(callB_of 1 hts gi_X5_fail rfl rfl rfl (hts _ q_ini_X5) (hts _ q_ml_X5_66) hd_X5_fail ⟨Nat.le_of_ble_eq_true rfl, Nat.le_of_ble_eq_true rfl⟩), hts _ q_im_X5_fail, hts _ q_sel_X5_X5_fail⟩ (xpV hE hS (hX1.main) rfl) rfl rfl hl.1 rfl (lv_room (Nat.le_of_ble_eq_true rfl)) dX5_setSlot_43 ⟨Nat.le_of_ble_eq_true rfl, Nat.le_of_ble_eq_true rfl⟩) hS (fun q h => h) (fun r_2 H2 locs hP9 hz9 hk9 hS => ?_)
      obtain ⟨hr9, hXf⟩ := hP9
      have hXf : yW D cA b (thG g 2) tt n np H2 := by rw [← thG_2 g 0 2, ← hg1]; exact hXf
      have hpost : (fun r h => ((okS n (nI i0) (nI j0) ∧ okR 0 30 x ∧ okR 0 20 y) ∧ r = g 4 (6 * cl (nI i0) + cl (nI j0)) ∧ ∃ g2, yW D cA b g2 tt n np h ∧ eqY (ssF g (6 * cl (nI i0) + cl (nI j0)) x y) g2 0) ∨ (¬ okS n (nI i0) (nI j0) ∧ yW D cA b (thG g 1) tt n np h) ∨ (okS n (nI i0) (nI j0) ∧ ¬ (okR 0 30 x ∧ okR 0 20 y) ∧ yW D cA b (thG g 2) tt n np h)) (r_2) H2 := by
        exact Or.inr (Or.inr ⟨⟨i0, j0, hi0, hj0, rfl, rfl⟩, fun z => (in_0.mp c27) ((ou_r (a := 0) (b := 30) (by omega) (by omega)).mpr z.1), hXf⟩)
      refine W.widen (k := 0) (n := 0) (by omega) (by omega) ?_
      exact W.iret (v := r_2) hx hb hr (fun t ht _ => ⟨⟨r_2, H2, rfl, hpost, ht⟩, hS.F ht⟩) hS.2.2 dX5_setSlot_46
    · refine lv_iload hx hb dX5_setSlot_30 (lv_at hl 4 rfl) ?_
      refine lv_iconst (v := nI 0) hx hb dX5_setSlot_32 (by decide) ?_
      refine lv_bipush (v := nI 20) hx hb dX5_setSlot_33 (by decide) ?_
      refine xcRi (va_runS (As := [.int (y), .int (nI 0), .int (nI 20)]) (rest := []) ⟨hx, hb, hml, hown, hts⟩ (c_X5_isIn l D cA e0 A H1 y (nI 0) (nI 20)) ⟨(callB_of 3 hts gi_X5_isIn rfl rfl rfl (hts _ q_ini_X5) (hts _ q_ml_X5_57) hd_X5_isIn ⟨Nat.le_of_ble_eq_true rfl, Nat.le_of_ble_eq_true rfl⟩), hts _ q_st_X5_isIn⟩ (xpS hE hS) rfl rfl hl.1 rfl (lv_room (Nat.le_of_ble_eq_true rfl)) dX5_setSlot_35 ⟨Nat.le_of_ble_eq_true rfl, Nat.le_of_ble_eq_true rfl⟩) ?_
      refine lv_if_ne (tgt := 47) hx hb dX5_setSlot_38 (by decide) (fun c38 => ?_) (fun c38 => ?_)
      · refine lv_bipush (v := nI 6) hx hb dX5_setSlot_47 (by decide) ?_
        refine lv_iload_n hx hb dX5_setSlot_49 rfl (lv_at hl 1 rfl) ?_
        refine lv_imul hx hb dX5_setSlot_50 ?_
        refine xtop (show ((nI 6) * (nI (i0))) = nI (6 * i0) from pk_mul 6 i0) ?_
        refine lv_iload_n hx hb dX5_setSlot_51 rfl (lv_at hl 2 rfl) ?_
        refine lv_iadd hx hb dX5_setSlot_52 ?_
        refine xtop (show ((nI (6 * i0)) + (nI (j0))) = nI ((6 * i0) + j0) from nI_add (6 * i0) j0) ?_
        refine lv_istore (lv' := [(5, .int (nI ((6 * i0) + j0))), (0, .ref (b 0)), (1, .int (nI (i0))), (2, .int (nI (j0))), (3, .int (x)), (4, .int (y))]) hx hb dX5_setSlot_53 hl (by decide) rfl (fun ls hl => ?_)
        refine lv_aload_n hx hb dX5_setSlot_55 rfl (lv_at hl 1 rfl) ?_
        refine va_get (D := D) (ci := 6) (v := .ref (b 5)) (C := RX5) (T := TX5) (N := 17) hx hb hts qi_X5 hown hK (xP1 (hX1.main)) 0 rfl rfl 7 (by decide) (hts _ q_fl_X5_22) (fun _ h9 => h9) rfl dX5_setSlot_56 ?_
        refine lv_iload hx hb dX5_setSlot_59 (lv_at hl 0 rfl) ?_
        refine va_iald hx hb hK (xP1 (hX1.t4)) 0 0 rfl rfl (i := nI ((6 * i0) + j0)) (vp_in_nI (n := (6 * i0) + j0) (by omega) (by omega)) dX5_setSlot_61 ?_
        refine xtop (show ((fun z => g1 4 (z)) (nI ((6 * i0) + j0)).toNatClampNeg) = g1 4 ((6 * i0) + j0) from by rw [nI_clamp (n := (6 * i0) + j0) (by omega)]) ?_
        refine lv_istore (lv' := [(6, .int (g1 4 ((6 * i0) + j0))), (5, .int (nI ((6 * i0) + j0))), (0, .ref (b 0)), (1, .int (nI (i0))), (2, .int (nI (j0))), (3, .int (x)), (4, .int (y))]) hx hb dX5_setSlot_62 hl (by decide) rfl (fun ls hl => ?_)
        refine lv_aload_n hx hb dX5_setSlot_64 rfl (lv_at hl 2 rfl) ?_
        refine va_get (D := D) (ci := 6) (v := .ref (b 5)) (C := RX5) (T := TX5) (N := 17) hx hb hts qi_X5 hown hK (xP1 (hX1.main)) 0 rfl rfl 7 (by decide) (hts _ q_fl_X5_22) (fun _ h9 => h9) rfl dX5_setSlot_65 ?_
        refine lv_iload hx hb dX5_setSlot_68 (lv_at hl 1 rfl) ?_
        refine lv_iload_n hx hb dX5_setSlot_70 rfl (lv_at hl 5 rfl) ?_
        refine xiast (D := D) hx hb hK hS 0 (hX1.t4) (hA.a (show 5 < 14 by omega)) rfl (i := nI ((6 * i0) + j0)) (x := x) (vp_in_nI (n := (6 * i0) + j0) (by omega) (by omega)) dX5_setSlot_71 (fun H3 locs hU hS => ?_)
        rw [nI_clamp (n := (6 * i0) + j0) (by omega)] at hU
        have hX4 := hX1.p4 hA hU
        obtain ⟨g4, hg4⟩ : ∃ z, z = va_up g1 4 (upd (g1 4) ((6 * i0) + j0) (x)) := ⟨_, rfl⟩
        rw [← hg4] at hX4
        refine lv_aload_n hx hb dX5_setSlot_72 rfl (lv_at hl 2 rfl) ?_
        refine va_get (D := D) (ci := 6) (v := .ref (b 8)) (C := RX5) (T := TX5) (N := 17) hx hb hts qi_X5 hown hK (xP1 (hX4.main)) 0 rfl rfl 10 (by decide) (hts _ q_fl_X5_31) (fun _ h9 => h9) rfl dX5_setSlot_73 ?_
        refine lv_iload hx hb dX5_setSlot_76 (lv_at hl 1 rfl) ?_
        refine lv_iload hx hb dX5_setSlot_78 (lv_at hl 6 rfl) ?_
        refine xiast (D := D) hx hb hK hS 0 (hX4.t7) (hA.a (show 8 < 14 by omega)) rfl (i := nI ((6 * i0) + j0)) (x := y) (vp_in_nI (n := (6 * i0) + j0) (by omega) (by omega)) dX5_setSlot_80 (fun H5 locs hU hS => ?_)
        rw [nI_clamp (n := (6 * i0) + j0) (by omega)] at hU
        have hX6 := hX4.p7 hA hU
        obtain ⟨g6, hg6⟩ : ∃ z, z = va_up g4 7 (upd (g4 7) ((6 * i0) + j0) (y)) := ⟨_, rfl⟩
        rw [← hg6] at hX6
        refine lv_aload_n hx hb dX5_setSlot_81 rfl (lv_at hl 2 rfl) ?_
        refine va_get (D := D) (ci := 6) (v := .ref (b 6)) (C := RX5) (T := TX5) (N := 17) hx hb hts qi_X5 hown hK (xP1 (hX6.main)) 0 rfl rfl 8 (by decide) (hts _ q_fl_X5_25) (fun _ h9 => h9) rfl dX5_setSlot_82 ?_
        refine lv_iload hx hb dX5_setSlot_85 (lv_at hl 1 rfl) ?_
        refine lv_aload_n hx hb dX5_setSlot_87 rfl (lv_at hl 2 rfl) ?_
        refine va_get (D := D) (ci := 6) (v := .ref (b 6)) (C := RX5) (T := TX5) (N := 17) hx hb hts qi_X5 hown hK (xP1 (hX6.main)) 0 rfl rfl 8 (by decide) (hts _ q_fl_X5_25) (fun _ h9 => h9) rfl dX5_setSlot_88 ?_
        refine lv_iload hx hb dX5_setSlot_91 (lv_at hl 1 rfl) ?_
        refine va_iald hx hb hK (xP1 (hX6.t5)) 0 0 rfl rfl (i := nI ((6 * i0) + j0)) (vp_in_nI (n := (6 * i0) + j0) (by omega) (by omega)) dX5_setSlot_93 ?_
        refine xtop (show ((fun z => g6 5 (z)) (nI ((6 * i0) + j0)).toNatClampNeg) = g6 5 ((6 * i0) + j0) from by rw [nI_clamp (n := (6 * i0) + j0) (by omega)]) ?_
        refine lv_iload_n hx hb dX5_setSlot_94 rfl (lv_at hl 5 rfl) ?_
        refine va_mmin hx hb (hml.trans hl.1.symm) hown (hts _ q_ml_X5_78) (hts _ q_st_J9_min_7cf53) (hts _ q_ini_J9) (hts _ q_co_min) (Nat.le_of_ble_eq_true rfl) (Nat.le_of_ble_eq_true rfl) (Nat.le_of_ble_eq_true rfl) (Nat.le_of_ble_eq_true rfl) dX5_setSlot_95 ?_
        refine xtop (show (if x < g6 5 ((6 * i0) + j0) then x else g6 5 ((6 * i0) + j0)) = mnI (g6 5 ((6 * i0) + j0)) (x) from rfl) ?_
        refine xiast (D := D) hx hb hK hS 0 (hX6.t5) (hA.a (show 6 < 14 by omega)) rfl (i := nI ((6 * i0) + j0)) (x := mnI (g6 5 ((6 * i0) + j0)) (x)) (vp_in_nI (n := (6 * i0) + j0) (by omega) (by omega)) dX5_setSlot_98 (fun H7 locs hU hS => ?_)
        rw [nI_clamp (n := (6 * i0) + j0) (by omega)] at hU
        have hX8 := hX6.p5 hA hU
        obtain ⟨g8, hg8⟩ : ∃ z, z = va_up g6 5 (upd (g6 5) ((6 * i0) + j0) (mnI (g6 5 ((6 * i0) + j0)) (x))) := ⟨_, rfl⟩
        rw [← hg8] at hX8
        refine lv_iload hx hb dX5_setSlot_99 (lv_at hl 0 rfl) ?_
        have hpost : (fun r h => ((okS n (nI i0) (nI j0) ∧ okR 0 30 x ∧ okR 0 20 y) ∧ r = g 4 (6 * cl (nI i0) + cl (nI j0)) ∧ ∃ g2, yW D cA b g2 tt n np h ∧ eqY (ssF g (6 * cl (nI i0) + cl (nI j0)) x y) g2 0) ∨ (¬ okS n (nI i0) (nI j0) ∧ yW D cA b (thG g 1) tt n np h) ∨ (okS n (nI i0) (nI j0) ∧ ¬ (okR 0 30 x ∧ okR 0 20 y) ∧ yW D cA b (thG g 2) tt n np h)) (g1 4 ((6 * i0) + j0)) H7 := by
          rw [cl_nI (n := i0) (by omega), cl_nI (n := j0) (by omega)]
          refine Or.inl ⟨⟨⟨i0, j0, hi0, hj0, rfl, rfl⟩, (ou_r (a := 0) (b := 30) (by omega) (by omega)).mp (Decidable.byContradiction (fun z => c27 (in_0.mpr z))), (ou_r (a := 0) (b := 20) (by omega) (by omega)).mp (Decidable.byContradiction (fun z => c38 (in_0.mpr z)))⟩, by rw [hg1, thG_t g 0 (by omega)], g8, hX8, fun t a b => ?_, ?_⟩
          · rw [hg8, hg6, hg4]
            unfold ssF
            have e4 : g1 4 = g 4 := by rw [hg1, thG_t g 0 (by omega)]
            have e5 : g1 5 = g 5 := by rw [hg1, thG_t g 0 (by omega)]
            have e7 : g1 7 = g 7 := by rw [hg1, thG_t g 0 (by omega)]
            rw [up_ne (show 7 ≠ 4 by omega), up_ne (show 5 ≠ 7 by omega), up_ne (show 5 ≠ 4 by omega), up_ne (show 5 ≠ 4 by omega), up_ne (show 7 ≠ 5 by omega), up_ne (show 7 ≠ 4 by omega), e4, e5, e7]
            by_cases h5 : t = 5
            · rw [h5, up_eq, up_ne (by omega), up_eq]
            · rw [up_ne h5]
              by_cases h7 : t = 7
              · rw [h7, up_eq, up_eq]
              · rw [up_ne h7, up_ne h7, up_ne h5]
                by_cases h4 : t = 4
                · rw [h4, up_eq, up_eq]
                · rw [up_ne h4, up_ne h4, hg1, thG_t g 0 a]
          · rw [hg8, up_ne (by omega), hg6, up_ne (by omega), hg4, up_ne (by omega), hg1]
            exact thG_20 g 0
        refine W.widen (k := 0) (n := 0) (by omega) (by omega) ?_
        exact W.iret (v := (g1 4 ((6 * i0) + j0))) hx hb hr (fun t ht _ => ⟨⟨(g1 4 ((6 * i0) + j0)), H7, rfl, hpost, ht⟩, hS.F ht⟩) hS.2.2 dX5_setSlot_101
      · refine lv_aload_n hx hb dX5_setSlot_41 rfl (lv_at hl 0 rfl) ?_
        refine lv_iconst (v := nI 2) hx hb dX5_setSlot_42 (by decide) ?_
        refine xci (va_runV (As := [.int (nI 2)]) (rest := []) ⟨hx, hb, hml, hown, hts⟩ (c_X5_fail l D cA e0 A H1 b g1 tt n np hX1 hA (nI 2)) ⟨(callB_of 1 hts gi_X5_fail rfl rfl rfl (hts _ q_ini_X5) (hts _ q_ml_X5_66) hd_X5_fail ⟨Nat.le_of_ble_eq_true rfl, Nat.le_of_ble_eq_true rfl⟩), hts _ q_im_X5_fail, hts _ q_sel_X5_X5_fail⟩ (xpV hE hS (hX1.main) rfl) rfl rfl hl.1 rfl (lv_room (Nat.le_of_ble_eq_true rfl)) dX5_setSlot_43 ⟨Nat.le_of_ble_eq_true rfl, Nat.le_of_ble_eq_true rfl⟩) hS (fun q h => h) (fun r_9 H9 locs hP9 hz9 hk9 hS => ?_)
        obtain ⟨hr9, hXf⟩ := hP9
        have hXf : yW D cA b (thG g 2) tt n np H9 := by rw [← thG_2 g 0 2, ← hg1]; exact hXf
        have hpost : (fun r h => ((okS n (nI i0) (nI j0) ∧ okR 0 30 x ∧ okR 0 20 y) ∧ r = g 4 (6 * cl (nI i0) + cl (nI j0)) ∧ ∃ g2, yW D cA b g2 tt n np h ∧ eqY (ssF g (6 * cl (nI i0) + cl (nI j0)) x y) g2 0) ∨ (¬ okS n (nI i0) (nI j0) ∧ yW D cA b (thG g 1) tt n np h) ∨ (okS n (nI i0) (nI j0) ∧ ¬ (okR 0 30 x ∧ okR 0 20 y) ∧ yW D cA b (thG g 2) tt n np h)) (r_9) H9 := by
          exact Or.inr (Or.inr ⟨⟨i0, j0, hi0, hj0, rfl, rfl⟩, fun z => (in_0.mp c38) ((ou_r (a := 0) (b := 20) (by omega) (by omega)).mpr z.2), hXf⟩)
        refine W.widen (k := 0) (n := 0) (by omega) (by omega) ?_
        exact W.iret (v := r_9) hx hb hr (fun t ht _ => ⟨⟨r_9, H9, rfl, hpost, ht⟩, hS.F ht⟩) hS.2.2 dX5_setSlot_46
  · refine lv_aload_n hx hb dX5_setSlot_14 rfl (lv_at hl 0 rfl) ?_
    refine lv_iconst (v := nI 1) hx hb dX5_setSlot_15 (by decide) ?_
    refine xci (va_runV (As := [.int (nI 1)]) (rest := []) ⟨hx, hb, hml, hown, hts⟩ (c_X5_fail l D cA e0 A H1 b g1 tt n np hX1 hA (nI 1)) ⟨(callB_of 1 hts gi_X5_fail rfl rfl rfl (hts _ q_ini_X5) (hts _ q_ml_X5_66) hd_X5_fail ⟨Nat.le_of_ble_eq_true rfl, Nat.le_of_ble_eq_true rfl⟩), hts _ q_im_X5_fail, hts _ q_sel_X5_X5_fail⟩ (xpV hE hS (hX1.main) rfl) rfl rfl hl.1 rfl (lv_room (Nat.le_of_ble_eq_true rfl)) dX5_setSlot_16 ⟨Nat.le_of_ble_eq_true rfl, Nat.le_of_ble_eq_true rfl⟩) hS (fun q h => h) (fun r_10 H10 locs hP9 hz9 hk9 hS => ?_)
    obtain ⟨hr9, hXf⟩ := hP9
    have hXf : yW D cA b (thG g 1) tt n np H10 := by rw [← thG_2 g 0 1, ← hg1]; exact hXf
    have hpost : (fun r h => ((okS n v w ∧ okR 0 30 x ∧ okR 0 20 y) ∧ r = g 4 (6 * cl v + cl w) ∧ ∃ g2, yW D cA b g2 tt n np h ∧ eqY (ssF g (6 * cl v + cl w) x y) g2 0) ∨ (¬ okS n v w ∧ yW D cA b (thG g 1) tt n np h) ∨ (okS n v w ∧ ¬ (okR 0 30 x ∧ okR 0 20 y) ∧ yW D cA b (thG g 2) tt n np h)) (r_10) H10 := by
      exact Or.inr (Or.inl ⟨fun z => (is_ok (by omega)).mpr z c11, hXf⟩)
    refine W.widen (k := 0) (n := 0) (by omega) (by omega) ?_
    exact W.iret (v := r_10) hx hb hr (fun t ht _ => ⟨⟨r_10, H10, rfl, hpost, ht⟩, hS.F ht⟩) hS.2.2 dX5_setSlot_19
