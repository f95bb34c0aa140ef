/-! The model: a round made (by p55.py) -/
theorem fu_d {g g1 : Nat → Nat → Int32} (h : eqT g g1) (i L : Nat) : ∀ j, eqT (fu g i L j).1 (fu g1 i L j).1 ∧ (fu g1 i L j).2 = (fu g i L j).2
  | 0 => ⟨h, rfl⟩
  | j + 1 => by
    obtain ⟨ih1, ih2⟩ := fu_d h i L j
    have e4 := ih1 4 (by omega)
    have e5 := ih1 5 (by omega)
    have el : lkN (fu g1 i L j).1 (6 * i + j) = lkN (fu g i L j).1 (6 * i + j) := by unfold lkN; rw [e4, e5]
    refine ⟨?_, ?_⟩
    · show eqT (va_up (fu g i L j).1 5 (upd ((fu g i L j).1 5) (6 * i + j) ((fu g i L j).1 5 (6 * i + j) + nI (min (fu g i L j).2 (lkN (fu g i L j).1 (6 * i + j)))))) (va_up (fu g1 i L j).1 5 (upd ((fu g1 i L j).1 5) (6 * i + j) ((fu g1 i L j).1 5 (6 * i + j) + nI (min (fu g1 i L j).2 (lkN (fu g1 i L j).1 (6 * i + j))))))
      exact eqT.up ih1 (by rw [el, ih2, e5])
    · show (fu g1 i L j).2 - min (fu g1 i L j).2 (lkN (fu g1 i L j).1 (6 * i + j)) = (fu g i L j).2 - min (fu g i L j).2 (lkN (fu g i L j).1 (6 * i + j))
      rw [el, ih2]
theorem svG_d {g g1 : Nat → Nat → Int32} (h : eqT g g1) (i : Nat) : eqT (svG g i) (svG g1 i) := by
  have e1 := h 1 (by omega)
  have e2 := h 2 (by omega)
  unfold svG
  rw [up_ne (show 2 ≠ 1 by omega), up_ne (show 2 ≠ 1 by omega), e1, e2]
  exact eqT.up (eqT.up h rfl) rfl
theorem goS_d {g g1 : Nat → Nat → Int32} (w : Nat → Nat → Int32) (S : Nat) (tt : Nat → Int64) (L : Nat) (h : eqT g g1) : ∀ k, eqT (goS w S g tt L k).1 (goS w S g1 tt L k).1 ∧ (goS w S g1 tt L k).2 = (goS w S g tt L k).2
  | 0 => ⟨h, rfl⟩
  | k + 1 => by
    obtain ⟨ih1, ih2⟩ := goS_d w S tt L h k
    have hs := svG_d ih1 (vs w S (k + 1)).2
    have e1 := ih1 1 (by omega)
    obtain ⟨f1, f2⟩ := fu_d hs (vs w S (k + 1)).2 (goS w S g tt L k).2.2 6
    refine ⟨?_, ?_⟩
    · show eqT (fu (svG (goS w S g tt L k).1 (vs w S (k + 1)).2) (vs w S (k + 1)).2 (goS w S g tt L k).2.2 6).1 (fu (svG (goS w S g1 tt L k).1 (vs w S (k + 1)).2) (vs w S (k + 1)).2 (goS w S g1 tt L k).2.2 6).1
      rw [ih2]
      exact f1
    · show (svT (goS w S g1 tt L k).2.1 ((goS w S g1 tt L k).1 1 (vs w S (k + 1)).2) ((goS w S g1 tt L k).2.2 - (fu (svG (goS w S g1 tt L k).1 (vs w S (k + 1)).2) (vs w S (k + 1)).2 (goS w S g1 tt L k).2.2 6).2), (fu (svG (goS w S g1 tt L k).1 (vs w S (k + 1)).2) (vs w S (k + 1)).2 (goS w S g1 tt L k).2.2 6).2) = (svT (goS w S g tt L k).2.1 ((goS w S g tt L k).1 1 (vs w S (k + 1)).2) ((goS w S g tt L k).2.2 - (fu (svG (goS w S g tt L k).1 (vs w S (k + 1)).2) (vs w S (k + 1)).2 (goS w S g tt L k).2.2 6).2), (fu (svG (goS w S g tt L k).1 (vs w S (k + 1)).2) (vs w S (k + 1)).2 (goS w S g tt L k).2.2 6).2)
      rw [ih2, e1, f2]
theorem svT_2 (tt : Nat → Int64) (c : Int32) (d : Nat) : svT tt c d 2 = tt 2 + (nI d).toInt64 := by
  unfold svT
  rw [pk_uLs, pk_uLn (by omega)]
theorem svT_n (tt : Nat → Int64) (c : Int32) (d : Nat) {j : Nat} (h : j ≠ 2) : svT tt c d j = vp_updL tt 0 (tt 0 + c.toInt64) j := by
  unfold svT
  rw [pk_uLn h]
theorem svF_2 (g : Nat → Nat → Int32) (tt : Nat → Int64) (i L : Nat) : (svF g tt i L).2.1 = svT tt (g 1 i) (L - (svF g tt i L).2.2) := rfl
theorem goS_s (w : Nat → Nat → Int32) (S : Nat) (g : Nat → Nat → Int32) (tt : Nat → Int64) (L k : Nat) : goS w S g tt L (k + 1) = svF (goS w S g tt L k).1 (goS w S g tt L k).2.1 (vs w S (k + 1)).2 (goS w S g tt L k).2.2 := rfl
theorem go_l {a : Int64} {L x y : Nat} (hL : L ≤ 2000) (h1 : x ≤ L) (h2 : y ≤ x) : a + (nI (L - x)).toInt64 + (nI (x - y)).toInt64 = a + (nI (L - y)).toInt64 := by
  rw [nI_l (n := L - x) (by omega), nI_l (n := x - y) (by omega), nI_l (n := L - y) (by omega), Int64.add_assoc, lN_add, show L - x + (x - y) = L - y by omega]
theorem go_2 (w : Nat → Nat → Int32) (S : Nat) (g : Nat → Nat → Int32) (tt : Nat → Int64) (L : Nat) (hL : L ≤ 2000) (k : Nat) : (goS w S g tt L k).2.1 2 = tt 2 + (nI (L - (goS w S g tt L k).2.2)).toInt64 := by
  induction k with
  | zero =>
    show tt 2 = tt 2 + (nI (L - L)).toInt64
    rw [Nat.sub_self, nI_l (by omega), show lN 0 = 0 from rfl, Int64.add_zero]
  | succ k ih =>
    have h1 := goS_le w S g tt L k
    have h2 := svF_le (goS w S g tt L k).1 (goS w S g tt L k).2.1 (vs w S (k + 1)).2 (goS w S g tt L k).2.2
    rw [goS_s, svF_2, svT_2, ih]
    exact go_l hL h1 h2
theorem go_t {t3 t4 : Nat → Int64} {c : Int32} {d : Nat} (h : ∀ j, j ≠ 2 → t3 j = t4 j) : ∀ j, j ≠ 2 → vp_updL t3 0 (t3 0 + c.toInt64) j = svT t4 c d j := fun j hj => by
  rw [svT_n t4 c d hj]
  by_cases h0 : j = 0
  · subst h0
    rw [pk_uLs, pk_uLs, h 0 (by omega)]
  · rw [pk_uLn h0, pk_uLn h0, h j hj]
theorem go_e {t3 t4 : Nat → Int64} {a : Int64} (h : ∀ j, j ≠ 2 → t3 j = t4 j) (h2 : t3 2 + a = t4 2) : vp_updL t3 2 (t3 2 + a) = t4 := by
  funext j
  by_cases hj : j = 2
  · subst hj
    rw [pk_uLs, h2]
  · rw [pk_uLn hj, h j hj]
set_option maxHeartbeats 4000000 in
set_option maxRecDepth 100000 in
/-- model.go -/
theorem c_X5_go (l : Launch) (D : va_G) (cA : Nat → ClassId) (e0 : Nat) (A : Nat → Prop) (H0 : Heap) (b : Nat → Nat) (g : Nat → Nat → Int32) (tt : Nat → Int64) (n np : Nat) (hX : yW D cA b g tt n np H0) (hA : yA A b n np) (hI : slInv g n) (v x : Int32) : Met l yX5_go w_X5_go ({ frames := 2, cells := 0, slots := 0, locals := 47 } : Room) (xPc D cA e0 A H0 [.ref (b 0), .int (v), .int (x)]) (xQi (fun r h => ((okT n v ∧ okR 0 2000 x) ∧ r = nI (goS (wy g) (cl v) g (vp_updL (vp_updL tt 1 (tt 1 + (rtF g (cl v)).toInt64)) 3 (tt 3 + 1)) (cl x) (bc (cl v))).2.2 ∧ ∃ g2, yW D cA b g2 (goS (wy g) (cl v) g (vp_updL (vp_updL tt 1 (tt 1 + (rtF g (cl v)).toInt64)) 3 (tt 3 + 1)) (cl x) (bc (cl v))).2.1 n np h ∧ eqT (goS (wy g) (cl v) g (vp_updL (vp_updL tt 1 (tt 1 + (rtF g (cl v)).toInt64)) 3 (tt 3 + 1)) (cl x) (bc (cl v))).1 g2 ∧ g2 21 = g 21 ∧ g2 20 0 = nI 0) ∨ (¬ (okT n v ∧ okR 0 2000 x) ∧ yW D cA b (thG g 1) tt n np h)) A) 0 0 (A) := by
  refine Met.ofW (cc := cX5_go) (maxL := 8) (ret := (some .int)) (by decide) rfl ?_
  intro p e s m args below meth c s₁ B hml hv
  obtain ⟨rfl, hH, hE⟩ := hv
  subst hH
  have hx := B.exec
  have hb := B.bytes
  have hr := B.returns
  have hts := hE.1.all ([.ref (b 0), .int (v), .int (x)] : List Value).toArray
  have hown : s.vm.findClass RX5 = some m.cls := findClass_of_methodNamed B.named
  have hlocks := B.notSynchronized
  have hK := hE.2.1
  have hS : va_S A s.heap s.heap [] := va_S.rf
  have hl := lv_entry ([.ref (b 0), .int (v), .int (x)]) (n := 8) (Nat.le_of_ble_eq_true rfl)
  rw [lg_entry_eq]
  generalize (lg_sl ([.ref (b 0), .int (v), .int (x)]) ++ List.replicate (8 - (lg_sl ([.ref (b 0), .int (v), .int (x)])).length) Slot.unset).toArray = ls at hl ⊢
  have hl : lv_has ls 8 [(0, .ref (b 0)), (1, .int (v)), (2, .int (x))] := hl
  have hn8 := hA.2.2.1
  have h256 := pow256 hn8
  refine lv_aload_n hx hb dX5_go_0 rfl (lv_at hl 0 rfl) ?_
  refine lv_iconst (v := nI 0) hx hb dX5_go_1 (by decide) ?_
  refine xput (D := D) (ci := 6) (v := .int (nI 0)) (C := RX5) (T := TX5) (N := 17) hx hb hts qi_X5 tyX5 tyX5_ok nmX5 hown hK hS (hX.main) (hA.a (show 0 < 14 by omega)) rfl 0 (by decide) (hts _ q_fl_X5_50) (fun _ h9 => h9) rfl (tyX5_ok 0 (by decide)) rfl rfl (Nat.le_of_ble_eq_true rfl) dX5_go_2 (fun H1 locs hU hS => ?_)
  obtain ⟨g1, hg1⟩ : ∃ z, z = thG g 0 := ⟨_, rfl⟩
  have hX1 : yW D cA b g1 tt n np H1 := by rw [hg1]; exact hX.pthr hA hU
  refine lv_aload_n hx hb dX5_go_5 rfl (lv_at hl 0 rfl) ?_
  refine lv_iload_n hx hb dX5_go_6 rfl (lv_at hl 1 rfl) ?_
  refine xcRi (va_runV (As := [.int (v)]) (rest := []) ⟨hx, hb, hml, hown, hts⟩ (c_X5_areMachines l D cA e0 A H1 b g1 tt n np hX1 hn8 v) ⟨(callB_of 1 hts gi_X5_areMachines rfl rfl rfl (hts _ q_ini_X5) (hts _ q_ml_X5_116) hd_X5_areMachines ⟨Nat.le_of_ble_eq_true rfl, Nat.le_of_ble_eq_true rfl⟩), hts _ q_im_X5_areMachines, hts _ q_sel_X5_X5_areMachines⟩ (xpV hE hS (hX1.main) rfl) rfl rfl hl.1 rfl (lv_room (Nat.le_of_ble_eq_true rfl)) dX5_go_7 ⟨Nat.le_of_ble_eq_true rfl, Nat.le_of_ble_eq_true rfl⟩) ?_
  refine lv_if_eq (tgt := 24) hx hb dX5_go_10 (by decide) (fun c10 => ?_) (fun c10 => ?_)
  · refine lv_aload_n hx hb dX5_go_24 rfl (lv_at hl 0 rfl) ?_
    refine lv_iconst (v := nI 1) hx hb dX5_go_25 (by decide) ?_
    refine xci (va_runV (As := [.int (nI 1)]) (rest := []) ⟨hx, hb, hml, hown, hts⟩ (c_X5_fail l D cA e0 A H1 b g1 tt n np hX1 hA (nI 1)) ⟨(callB_of 1 hts gi_X5_fail rfl rfl rfl (hts _ q_ini_X5) (hts _ q_ml_X5_66) hd_X5_fail ⟨Nat.le_of_ble_eq_true rfl, Nat.le_of_ble_eq_true rfl⟩), hts _ q_im_X5_fail, hts _ q_sel_X5_X5_fail⟩ (xpV hE hS (hX1.main) rfl) rfl rfl hl.1 rfl (lv_room (Nat.le_of_ble_eq_true rfl)) dX5_go_26 ⟨Nat.le_of_ble_eq_true rfl, Nat.le_of_ble_eq_true rfl⟩) hS (fun q h => h) (fun r_2 H2 locs hP9 hz9 hk9 hS => ?_)
    obtain ⟨hr9, hXf⟩ := hP9
    have hXf : yW D cA b (thG g 1) tt n np H2 := by rw [← thG_2 g 0 1, ← hg1]; exact hXf
    have hpost : (fun r h => ((okT n v ∧ okR 0 2000 x) ∧ r = nI (goS (wy g) (cl v) g (vp_updL (vp_updL tt 1 (tt 1 + (rtF g (cl v)).toInt64)) 3 (tt 3 + 1)) (cl x) (bc (cl v))).2.2 ∧ ∃ g2, yW D cA b g2 (goS (wy g) (cl v) g (vp_updL (vp_updL tt 1 (tt 1 + (rtF g (cl v)).toInt64)) 3 (tt 3 + 1)) (cl x) (bc (cl v))).2.1 n np h ∧ eqT (goS (wy g) (cl v) g (vp_updL (vp_updL tt 1 (tt 1 + (rtF g (cl v)).toInt64)) 3 (tt 3 + 1)) (cl x) (bc (cl v))).1 g2 ∧ g2 21 = g 21 ∧ g2 20 0 = nI 0) ∨ (¬ (okT n v ∧ okR 0 2000 x) ∧ yW D cA b (thG g 1) tt n np h)) (r_2) H2 := by
      exact Or.inr ⟨fun z => (in_0.mp c10) ((okT_k hn8).mpr z.1), hXf⟩
    refine W.widen (k := 0) (n := 0) (by omega) (by omega) ?_
    exact W.iret (v := r_2) hx hb hr (fun t ht _ => ⟨⟨r_2, H2, rfl, hpost, ht⟩, hS.F ht⟩) hS.2.2 dX5_go_29
  · obtain ⟨S, hS2, rfl⟩ := (okT_k hn8).mp (Decidable.byContradiction (fun z => c10 (in_0.mpr z)))
    have hSt : S < 256 := Nat.lt_of_lt_of_le hS2 (pow256 hn8)
    refine lv_iload_n hx hb dX5_go_13 rfl (lv_at hl 2 rfl) ?_
    refine lv_iconst (v := nI 0) hx hb dX5_go_14 (by decide) ?_
    refine lv_sipush (v := nI 2000) hx hb dX5_go_15 (by decide) ?_
    refine xcRi (va_runS (As := [.int (x), .int (nI 0), .int (nI 2000)]) (rest := []) ⟨hx, hb, hml, hown, hts⟩ (c_X5_isIn l D cA e0 A H1 x (nI 0) (nI 2000)) ⟨(callB_of 3 hts gi_X5_isIn rfl rfl rfl (hts _ q_ini_X5) (hts _ q_ml_X5_57) hd_X5_isIn ⟨Nat.le_of_ble_eq_true rfl, Nat.le_of_ble_eq_true rfl⟩), hts _ q_st_X5_isIn⟩ (xpS hE hS) rfl rfl hl.1 rfl (lv_room (Nat.le_of_ble_eq_true rfl)) dX5_go_18 ⟨Nat.le_of_ble_eq_true rfl, Nat.le_of_ble_eq_true rfl⟩) ?_
    refine lv_if_ne (tgt := 30) hx hb dX5_go_21 (by decide) (fun c21 => ?_) (fun c21 => ?_)
    · obtain ⟨L, hL0, hL, rfl⟩ := (ou_r (a := 0) (b := 2000) (by omega) (by omega)).mp (Decidable.byContradiction (fun z => c21 (in_0.mpr z)))
      have hb8 := bc_le S hSt
      refine lv_aload_n hx hb dX5_go_30 rfl (lv_at hl 0 rfl) ?_
      refine lv_iload_n hx hb dX5_go_31 rfl (lv_at hl 1 rfl) ?_
      refine xcv (va_runV (As := [.int (nI (S))]) (rest := []) ⟨hx, hb, hml, hown, hts⟩ (c_X5_tabulate l D cA e0 A H1 b g1 tt n np hX1 hA S hSt) ⟨(callB_of 1 hts gi_X5_tabulate rfl rfl rfl (hts _ q_ini_X5) (hts _ q_ml_X5_119) hd_X5_tabulate ⟨Nat.le_of_ble_eq_true rfl, Nat.le_of_ble_eq_true rfl⟩), hts _ q_im_X5_tabulate, hts _ q_sel_X5_X5_tabulate⟩ (xpV hE hS (hX1.main) rfl) rfl rfl hl.1 rfl (lv_room (Nat.le_of_ble_eq_true rfl)) dX5_go_32 ⟨Nat.le_of_ble_eq_true rfl, Nat.le_of_ble_eq_true rfl⟩) hS (fun q h => h) (fun H3 locs hP9 hz9 hk9 hS => ?_)
      obtain ⟨gB, hXB, hkB, hrB⟩ := hP9
      have heB : eqY g gB 0 := eqY_22 (by rw [hg1]; exact eqY_th g 0) hkB
      have hwB : wy gB = wy g := wy_c (heB.1 3 (by omega) (by omega))
      refine lv_aload_n hx hb dX5_go_35 rfl (lv_at hl 0 rfl) ?_
      refine va_get (D := D) (ci := 6) (v := .ref (b 12)) (C := RX5) (T := TX5) (N := 17) hx hb hts qi_X5 hown hK (xP1 (hXB.main)) 0 rfl rfl 15 (by decide) (hts _ q_fl_X5_43) (fun _ h9 => h9) rfl dX5_go_36 ?_
      refine lv_iconst (v := nI 1) hx hb dX5_go_39 (by decide) ?_
      refine lv_dup2_11 hx hb dX5_go_40 rfl rfl ?_
      refine va_lald hx hb hK (xP1 (hXB.tot)) 0 1 rfl rfl (i := nI 1) (vp_in_nI (n := 1) (by omega) (by omega)) dX5_go_41 ?_
      refine xtopL (show ((fun z => tt (z)) (nI 1).toNatClampNeg) = tt (1) from by rw [nI_clamp (n := 1) (by omega)]) ?_
      refine lv_aload_n hx hb dX5_go_42 rfl (lv_at hl 0 rfl) ?_
      refine lv_iload_n hx hb dX5_go_43 rfl (lv_at hl 1 rfl) ?_
      refine xcRi (va_runV (As := [.int (nI (S))]) (rest := [.long (tt (1)), .int (nI 1), .ref (b 12)]) ⟨hx, hb, hml, hown, hts⟩ (c_X5_minutesOf l D cA e0 A H3 b gB tt n np hXB hn8 S hS2 (hrB S (Nat.le_refl _))) ⟨(callB_of 1 hts gi_X5_minutesOf rfl rfl rfl (hts _ q_ini_X5) (hts _ q_ml_X5_129) hd_X5_minutesOf ⟨Nat.le_of_ble_eq_true rfl, Nat.le_of_ble_eq_true rfl⟩), hts _ q_im_X5_minutesOf, hts _ q_sel_X5_X5_minutesOf⟩ (xpV hE hS (hXB.main) rfl) rfl rfl hl.1 rfl (lv_room (Nat.le_of_ble_eq_true rfl)) dX5_go_44 ⟨Nat.le_of_ble_eq_true rfl, Nat.le_of_ble_eq_true rfl⟩) ?_
      refine lv_i2l (v := (rtF gB S).toInt64) hx hb dX5_go_47 rfl ?_
      refine lv_ladd hx hb dX5_go_48 ?_
      refine xlast (D := D) hx hb hK hS 1 (hXB.tot) (hA.a (show 12 < 14 by omega)) rfl (i := nI 1) (x := (tt (1)) + ((rtF gB S).toInt64)) (vp_in_nI (n := 1) (by omega) (by omega)) dX5_go_49 (fun H4 locs hU hS => ?_)
      rw [nI_clamp (n := 1) (by omega)] at hU
      have hXtF := hXB.ptt hA hU
      obtain ⟨tF, htF⟩ : ∃ z, z = vp_updL tt 1 ((tt (1)) + ((rtF gB S).toInt64)) := ⟨_, rfl⟩
      rw [← htF] at hXtF
      refine lv_aload_n hx hb dX5_go_50 rfl (lv_at hl 0 rfl) ?_
      refine va_get (D := D) (ci := 6) (v := .ref (b 12)) (C := RX5) (T := TX5) (N := 17) hx hb hts qi_X5 hown hK (xP1 (hXtF.main)) 0 rfl rfl 15 (by decide) (hts _ q_fl_X5_43) (fun _ h9 => h9) rfl dX5_go_51 ?_
      refine lv_iconst (v := nI 3) hx hb dX5_go_54 (by decide) ?_
      refine lv_dup2_11 hx hb dX5_go_55 rfl rfl ?_
      refine va_lald hx hb hK (xP1 (hXtF.tot)) 0 1 rfl rfl (i := nI 3) (vp_in_nI (n := 3) (by omega) (by omega)) dX5_go_56 ?_
      refine xtopL (show ((fun z => tF (z)) (nI 3).toNatClampNeg) = tF (3) from by rw [nI_clamp (n := 3) (by omega)]) ?_
      refine lv_lconst (v := 1) hx hb dX5_go_57 (by decide) ?_
      refine lv_ladd hx hb dX5_go_58 ?_
      refine xlast (D := D) hx hb hK hS 1 (hXtF.tot) (hA.a (show 12 < 14 by omega)) rfl (i := nI 3) (x := (tF (3)) + 1) (vp_in_nI (n := 3) (by omega) (by omega)) dX5_go_59 (fun H5 locs hU hS => ?_)
      rw [nI_clamp (n := 3) (by omega)] at hU
      have hXtG := hXtF.ptt hA hU
      obtain ⟨tG, htG⟩ : ∃ z, z = vp_updL tF 3 ((tF (3)) + 1) := ⟨_, rfl⟩
      rw [← htG] at hXtG
      have hIB : slInv gB n := inv_c hI (heB.1 4 (by omega) (by omega)) (heB.1 5 (by omega) (by omega)) (heB.1 7 (by omega) (by omega))
      refine lv_iload_n hx hb dX5_go_60 rfl (lv_at hl 2 rfl) ?_
      refine lv_istore_n (lv' := [(3, .int (nI (L))), (0, .ref (b 0)), (1, .int (nI (S))), (2, .int (nI (L)))]) hx hb dX5_go_61 rfl hl (by decide) rfl (fun ls hl => ?_)
      refine lv_bipush (v := nI 8) hx hb dX5_go_62 (by decide) ?_
      refine lv_istore (lv' := [(4, .int (nI 8)), (3, .int (nI (L))), (0, .ref (b 0)), (1, .int (nI (S))), (2, .int (nI (L)))]) hx hb dX5_go_64 hl (by decide) rfl (fun ls hl => ?_)
      refine lv_iload_n hx hb dX5_go_66 rfl (lv_at hl 3 rfl) ?_
      refine lv_istore (lv' := [(5, .int (nI (S))), (4, .int (nI 8)), (3, .int (nI (L))), (0, .ref (b 0)), (1, .int (nI (S))), (2, .int (nI (L)))]) hx hb dX5_go_67 hl (by decide) rfl (fun ls hl => ?_)
      have LOOP69 : ∀ (n69 : Nat) (k : Nat) (ll : Nat) (g3 : Nat → Nat → Int32) (t3 : Nat → Int64) (H : Heap) (locs : List Loc) (ls : Array Slot), (k ≤ bc S) → (yW D cA b g3 t3 n np H) → (g3 = (goS (wy gB) S gB tG L k).1) → (ll = (goS (wy gB) S gB tG L k).2.2) → (∀ j, j ≠ 2 → t3 j = (goS (wy gB) S gB tG L k).2.1 j) → (t3 2 = tG 2) → va_S A s.heap H locs → (bc S - k) < n69 → lv_has ls 8 [(5, .int (nI ((vs (wy gB) S k).1))), (4, .int (nI ((vs (wy gB) S k).2))), (3, .int (nI (ll))), (0, .ref (b 0)), (1, .int (nI (S))), (2, .int (nI (L)))] → W p l e (headSpec w_X5_go ({ frames := 2, cells := 0, slots := 0, locals := 47 } : Room)).room s m ([.ref (b 0), .int ((nI S)), .int ((nI L))] : List Value).toArray below meth c H locs (0 + 0) (0 + 0) (MQ below (xQi (fun r h => ((okT n (nI S) ∧ okR 0 2000 (nI L)) ∧ r = nI (goS (wy g) (cl (nI S)) g (vp_updL (vp_updL tt 1 (tt 1 + (rtF g (cl (nI S))).toInt64)) 3 (tt 3 + 1)) (cl (nI L)) (bc (cl (nI S)))).2.2 ∧ ∃ g2, yW D cA b g2 (goS (wy g) (cl (nI S)) g (vp_updL (vp_updL tt 1 (tt 1 + (rtF g (cl (nI S))).toInt64)) 3 (tt 3 + 1)) (cl (nI L)) (bc (cl (nI S)))).2.1 n np h ∧ eqT (goS (wy g) (cl (nI S)) g (vp_updL (vp_updL tt 1 (tt 1 + (rtF g (cl (nI S))).toInt64)) 3 (tt 3 + 1)) (cl (nI L)) (bc (cl (nI S)))).1 g2 ∧ g2 21 = g 21 ∧ g2 20 0 = nI 0) ∨ (¬ (okT n (nI S) ∧ okR 0 2000 (nI L)) ∧ yW D cA b (thG g 1) tt n np h)) A) ([.ref (b 0), .int ((nI S)), .int ((nI L))] : List Value).toArray s 0 0 (A)) (F0 m 69 ls []) := by
        intro n69
        induction n69 with
        | zero => intro k ll g3 t3 H locs ls hk hX3 hg3 hll ht3 ht2 hS hmeas hl; exact absurd hmeas (Nat.not_lt_zero _)
        | succ n69 ih69 =>
          intro k ll g3 t3 H locs ls hk hX3 hg3 hll ht3 ht2 hS hmeas hl
          have hw3 : wy g3 = wy gB := wy_c (by rw [hg3, goS_t (wy gB) S gB tG L (by omega) (by omega) (by omega) k])
          have hr3 : rsAll g3 S := fun S9 h9 a9 ha9 => by
            rw [hw3, hg3, goS_t (wy gB) S gB tG L (by omega) (by omega) (by omega) k]
            exact hrB S9 h9 a9 ha9
          have hI3 : slInv g3 n := by rw [hg3]; exact goS_iv tG L hn8 hS2 hIB k hk
          have hl2 : ll ≤ L := by rw [hll]; exact goS_le _ _ _ _ _ k
          have hv2 := vs_ok (wy gB) hn8 hS2 k hk
          have hvz := vs_z (wy gB) hn8 hS2 hk
          have hv8 := vs_8 (wy gB) hn8 hS2 hk
          refine lv_iload hx hb dX5_go_69 (lv_at hl 0 rfl) ?_
          refine lv_if_eq (tgt := 197) hx hb dX5_go_71 (by decide) (fun c71 => ?_) (fun c71 => ?_)
          · have hkb : k = bc S := hvz.mp (nI_inj (a := (vs (wy gB) S k).1) (b := 0) (by omega) (by omega) c71)
            refine lv_aload_n hx hb dX5_go_197 rfl (lv_at hl 3 rfl) ?_
            refine va_get (D := D) (ci := 6) (v := .ref (b 12)) (C := RX5) (T := TX5) (N := 17) hx hb hts qi_X5 hown hK (xP1 (hX3.main)) 0 rfl rfl 15 (by decide) (hts _ q_fl_X5_43) (fun _ h9 => h9) rfl dX5_go_198 ?_
            refine lv_iconst (v := nI 2) hx hb dX5_go_201 (by decide) ?_
            refine lv_dup2_11 hx hb dX5_go_202 rfl rfl ?_
            refine va_lald hx hb hK (xP1 (hX3.tot)) 0 1 rfl rfl (i := nI 2) (vp_in_nI (n := 2) (by omega) (by omega)) dX5_go_203 ?_
            refine xtopL (show ((fun z => t3 (z)) (nI 2).toNatClampNeg) = t3 (2) from by rw [nI_clamp (n := 2) (by omega)]) ?_
            refine lv_iload_n hx hb dX5_go_204 rfl (lv_at hl 5 rfl) ?_
            refine lv_iload_n hx hb dX5_go_205 rfl (lv_at hl 2 rfl) ?_
            refine lv_isub hx hb dX5_go_206 ?_
            refine xtop (show ((nI (L)) - (nI (ll))) = nI (L - ll) from pk_sub hl2) ?_
            refine lv_i2l (v := (nI (L - ll)).toInt64) hx hb dX5_go_207 rfl ?_
            refine lv_ladd hx hb dX5_go_208 ?_
            refine xlast (D := D) hx hb hK hS 1 (hX3.tot) (hA.a (show 12 < 14 by omega)) rfl (i := nI 2) (x := (t3 (2)) + ((nI (L - ll)).toInt64)) (vp_in_nI (n := 2) (by omega) (by omega)) dX5_go_209 (fun H6 locs hU hS => ?_)
            rw [nI_clamp (n := 2) (by omega)] at hU
            have hXtZ := hX3.ptt hA hU
            obtain ⟨tZ, htZ⟩ : ∃ z, z = vp_updL t3 2 ((t3 (2)) + ((nI (L - ll)).toInt64)) := ⟨_, rfl⟩
            rw [← htZ] at hXtZ
            refine lv_iload_n hx hb dX5_go_210 rfl (lv_at hl 2 rfl) ?_
            have hpost : (fun r h => ((okT n (nI S) ∧ okR 0 2000 (nI L)) ∧ r = nI (goS (wy g) (cl (nI S)) g (vp_updL (vp_updL tt 1 (tt 1 + (rtF g (cl (nI S))).toInt64)) 3 (tt 3 + 1)) (cl (nI L)) (bc (cl (nI S)))).2.2 ∧ ∃ g2, yW D cA b g2 (goS (wy g) (cl (nI S)) g (vp_updL (vp_updL tt 1 (tt 1 + (rtF g (cl (nI S))).toInt64)) 3 (tt 3 + 1)) (cl (nI L)) (bc (cl (nI S)))).2.1 n np h ∧ eqT (goS (wy g) (cl (nI S)) g (vp_updL (vp_updL tt 1 (tt 1 + (rtF g (cl (nI S))).toInt64)) 3 (tt 3 + 1)) (cl (nI L)) (bc (cl (nI S)))).1 g2 ∧ g2 21 = g 21 ∧ g2 20 0 = nI 0) ∨ (¬ (okT n (nI S) ∧ okR 0 2000 (nI L)) ∧ yW D cA b (thG g 1) tt n np h)) (nI (ll)) H6 := by
              have e1 : cl (nI S) = S := cl_nI (by omega)
              have e2 : cl (nI L) = L := cl_nI (by omega)
              rw [e1, e2]
              have hT : tG = vp_updL (vp_updL tt 1 (tt 1 + (rtF g S).toInt64)) 3 (tt 3 + 1) := by rw [htG, htF, pk_uLn (by omega), rtF_c heB S]
              have heT : eqT g gB := fun t ht => heB.1 t (by omega) (by omega)
              have hd := goS_d (wy g) S tG L heT (bc S)
              rw [hwB, hkb] at hg3 hll ht3
              rw [← hg3] at hd
              have hz2 := go_2 (wy g) S gB tG L hL (bc S)
              rw [← hll] at hz2
              have hz3 : t3 2 + (nI (L - ll)).toInt64 = (goS (wy g) S gB tG L (bc S)).2.1 2 := by rw [ht2]; exact hz2.symm
              have hZ : tZ = (goS (wy g) S g tG L (bc S)).2.1 := by
                rw [htZ, go_e ht3 hz3, hd.2]
              rw [← hT, ← hd.2]
              refine Or.inl ⟨⟨⟨S, hS2, rfl⟩, L, hL0, hL, rfl⟩, by rw [← hll], g3, by rw [hd.2, ← hZ]; exact hXtZ, hd.1, ?_, ?_⟩
              · rw [hg3, goS_t (wy g) S gB tG L (by omega) (by omega) (by omega), heB.1 21 (by omega) (by omega)]
              · rw [hg3, goS_t (wy g) S gB tG L (by omega) (by omega) (by omega)]
                exact heB.2
            refine W.widen (k := 0) (n := 0) (by omega) (by omega) ?_
            exact W.iret (v := (nI (ll))) hx hb hr (fun t ht _ => ⟨⟨(nI (ll)), H6, rfl, hpost, ht⟩, hS.F ht⟩) hS.2.2 dX5_go_211
          · have hkb : k < bc S := by
              have z : ¬ k = bc S := fun z => c71 (by rw [hvz.mpr z]; rfl)
              omega
            obtain ⟨v1, v2, v3, v4⟩ := vs_next (wy gB) hn8 hS2 hkb
            refine lv_aload_n hx hb dX5_go_74 rfl (lv_at hl 3 rfl) ?_
            refine lv_iload hx hb dX5_go_75 (lv_at hl 0 rfl) ?_
            refine lv_iload hx hb dX5_go_77 (lv_at hl 1 rfl) ?_
            refine xcRi (va_runV (As := [.int (nI ((vs (wy gB) S k).1)), .int (nI ((vs (wy gB) S k).2))]) (rest := []) ⟨hx, hb, hml, hown, hts⟩ (c_X5_nextOf l D cA e0 A H b g3 t3 n np hX3 (vs (wy gB) S k).1 (vs (wy gB) S k).2 (Nat.lt_of_lt_of_le v1 h256) v2 hv8 (fun S9 h9 => hr3 S9 (Nat.le_trans h9 hv2.1))) ⟨(callB_of 2 hts gi_X5_nextOf rfl rfl rfl (hts _ q_ini_X5) (hts _ q_ml_X5_126) hd_X5_nextOf ⟨Nat.le_of_ble_eq_true rfl, Nat.le_of_ble_eq_true rfl⟩), hts _ q_im_X5_nextOf, hts _ q_sel_X5_X5_nextOf⟩ (xpV hE hS (hX3.main) rfl) rfl rfl hl.1 rfl (lv_room (Nat.le_of_ble_eq_true rfl)) dX5_go_79 ⟨Nat.le_of_ble_eq_true rfl, Nat.le_of_ble_eq_true rfl⟩) ?_
            refine xtop (show (nI (nx (wy g3) (vs (wy gB) S k).1 (vs (wy gB) S k).2)) = nI ((vs (wy gB) S (k + 1)).2) from by rw [hw3] <;> rfl) ?_
            refine lv_istore (lv' := [(4, .int (nI ((vs (wy gB) S (k + 1)).2))), (5, .int (nI ((vs (wy gB) S k).1))), (3, .int (nI (ll))), (0, .ref (b 0)), (1, .int (nI (S))), (2, .int (nI (L)))]) hx hb dX5_go_82 hl (by decide) rfl (fun ls hl => ?_)
            refine lv_iload hx hb dX5_go_84 (lv_at hl 1 rfl) ?_
            refine lv_iconst (v := nI 1) hx hb dX5_go_86 (by decide) ?_
            refine lv_iload hx hb dX5_go_87 (lv_at hl 0 rfl) ?_
            refine lv_ishl hx hb dX5_go_89 ?_
            refine lv_iconst (v := (-1)) hx hb dX5_go_90 (by decide) ?_
            refine lv_ixor hx hb dX5_go_91 ?_
            refine lv_iand hx hb dX5_go_92 ?_
            refine xtop (show ((nI ((vs (wy gB) S k).1)) &&& (((nI 1) <<< (nI ((vs (wy gB) S (k + 1)).2) &&& 31)) ^^^ ((-1)))) = nI ((vs (wy gB) S (k + 1)).1) from p_wo _ (by omega) _ (by omega) v4) ?_
            refine lv_istore (lv' := [(5, .int (nI ((vs (wy gB) S (k + 1)).1))), (4, .int (nI ((vs (wy gB) S (k + 1)).2))), (3, .int (nI (ll))), (0, .ref (b 0)), (1, .int (nI (S))), (2, .int (nI (L)))]) hx hb dX5_go_93 hl (by decide) rfl (fun ls hl => ?_)
            refine lv_aload_n hx hb dX5_go_95 rfl (lv_at hl 3 rfl) ?_
            refine va_get (D := D) (ci := 6) (v := .ref (b 12)) (C := RX5) (T := TX5) (N := 17) hx hb hts qi_X5 hown hK (xP1 (hX3.main)) 0 rfl rfl 15 (by decide) (hts _ q_fl_X5_43) (fun _ h9 => h9) rfl dX5_go_96 ?_
            refine lv_iconst (v := nI 0) hx hb dX5_go_99 (by decide) ?_
            refine lv_dup2_11 hx hb dX5_go_100 rfl rfl ?_
            refine va_lald hx hb hK (xP1 (hX3.tot)) 0 1 rfl rfl (i := nI 0) (vp_in_nI (n := 0) (by omega) (by omega)) dX5_go_101 ?_
            refine xtopL (show ((fun z => t3 (z)) (nI 0).toNatClampNeg) = t3 (0) from by rw [nI_clamp (n := 0) (by omega)]) ?_
            refine lv_aload_n hx hb dX5_go_102 rfl (lv_at hl 3 rfl) ?_
            refine va_get (D := D) (ci := 6) (v := .ref (b 2)) (C := RX5) (T := TX5) (N := 17) hx hb hts qi_X5 hown hK (xP1 (hX3.main)) 0 rfl rfl 4 (by decide) (hts _ q_fl_X5_13) (fun _ h9 => h9) rfl dX5_go_103 ?_
            refine lv_iload hx hb dX5_go_106 (lv_at hl 1 rfl) ?_
            refine va_iald hx hb hK (xP1 (hX3.t1)) 0 0 rfl rfl (i := nI ((vs (wy gB) S (k + 1)).2)) (vp_in_nI (n := (vs (wy gB) S (k + 1)).2) (by omega) (by omega)) dX5_go_108 ?_
            refine xtop (show ((fun z => g3 1 (z)) (nI ((vs (wy gB) S (k + 1)).2)).toNatClampNeg) = g3 1 ((vs (wy gB) S (k + 1)).2) from by rw [nI_clamp (n := (vs (wy gB) S (k + 1)).2) (by omega)]) ?_
            refine lv_i2l (v := (g3 1 ((vs (wy gB) S (k + 1)).2)).toInt64) hx hb dX5_go_109 rfl ?_
            refine lv_ladd hx hb dX5_go_110 ?_
            refine xlast (D := D) hx hb hK hS 1 (hX3.tot) (hA.a (show 12 < 14 by omega)) rfl (i := nI 0) (x := (t3 (0)) + ((g3 1 ((vs (wy gB) S (k + 1)).2)).toInt64)) (vp_in_nI (n := 0) (by omega) (by omega)) dX5_go_111 (fun H7 locs hU hS => ?_)
            rw [nI_clamp (n := 0) (by omega)] at hU
            have hXtE := hX3.ptt hA hU
            obtain ⟨tE, htE⟩ : ∃ z, z = vp_updL t3 0 ((t3 (0)) + ((g3 1 ((vs (wy gB) S (k + 1)).2)).toInt64)) := ⟨_, rfl⟩
            rw [← htE] at hXtE
            refine lv_aload_n hx hb dX5_go_112 rfl (lv_at hl 3 rfl) ?_
            refine va_get (D := D) (ci := 6) (v := .ref (b 2)) (C := RX5) (T := TX5) (N := 17) hx hb hts qi_X5 hown hK (xP1 (hXtE.main)) 0 rfl rfl 4 (by decide) (hts _ q_fl_X5_13) (fun _ h9 => h9) rfl dX5_go_113 ?_
            refine lv_iload hx hb dX5_go_116 (lv_at hl 1 rfl) ?_
            refine lv_iconst (v := nI 0) hx hb dX5_go_118 (by decide) ?_
            refine xiast (D := D) hx hb hK hS 0 (hXtE.t1) (hA.a (show 2 < 14 by omega)) rfl (i := nI ((vs (wy gB) S (k + 1)).2)) (x := nI 0) (vp_in_nI (n := (vs (wy gB) S (k + 1)).2) (by omega) (by omega)) dX5_go_119 (fun H8 locs hU hS => ?_)
            rw [nI_clamp (n := (vs (wy gB) S (k + 1)).2) (by omega)] at hU
            have hX9 := hXtE.p1 hA hU
            obtain ⟨g9, hg9⟩ : ∃ z, z = va_up g3 1 (upd (g3 1) ((vs (wy gB) S (k + 1)).2) (nI 0)) := ⟨_, rfl⟩
            rw [← hg9] at hX9
            refine lv_aload_n hx hb dX5_go_120 rfl (lv_at hl 3 rfl) ?_
            refine va_get (D := D) (ci := 6) (v := .ref (b 3)) (C := RX5) (T := TX5) (N := 17) hx hb hts qi_X5 hown hK (xP1 (hX9.main)) 0 rfl rfl 5 (by decide) (hts _ q_fl_X5_16) (fun _ h9 => h9) rfl dX5_go_121 ?_
            refine lv_iload hx hb dX5_go_124 (lv_at hl 1 rfl) ?_
            refine lv_dup2_11 hx hb dX5_go_126 rfl rfl ?_
            refine va_iald hx hb hK (xP1 (hX9.t2)) 0 0 rfl rfl (i := nI ((vs (wy gB) S (k + 1)).2)) (vp_in_nI (n := (vs (wy gB) S (k + 1)).2) (by omega) (by omega)) dX5_go_127 ?_
            refine xtop (show ((fun z => g9 2 (z)) (nI ((vs (wy gB) S (k + 1)).2)).toNatClampNeg) = g9 2 ((vs (wy gB) S (k + 1)).2) from by rw [nI_clamp (n := (vs (wy gB) S (k + 1)).2) (by omega)]) ?_
            refine lv_iconst (v := nI 1) hx hb dX5_go_128 (by decide) ?_
            refine lv_iadd hx hb dX5_go_129 ?_
            refine xiast (D := D) hx hb hK hS 0 (hX9.t2) (hA.a (show 3 < 14 by omega)) rfl (i := nI ((vs (wy gB) S (k + 1)).2)) (x := (g9 2 ((vs (wy gB) S (k + 1)).2)) + (nI 1)) (vp_in_nI (n := (vs (wy gB) S (k + 1)).2) (by omega) (by omega)) dX5_go_130 (fun H10 locs hU hS => ?_)
            rw [nI_clamp (n := (vs (wy gB) S (k + 1)).2) (by omega)] at hU
            have hX11 := hX9.p2 hA hU
            obtain ⟨g11, hg11⟩ : ∃ z, z = va_up g9 2 (upd (g9 2) ((vs (wy gB) S (k + 1)).2) ((g9 2 ((vs (wy gB) S (k + 1)).2)) + (nI 1))) := ⟨_, rfl⟩
            rw [← hg11] at hX11
            obtain ⟨gV, hgV⟩ : ∃ z, z = svG g3 (vs (wy gB) S (k + 1)).2 := ⟨_, rfl⟩
            have hXV : yW D cA b gV tE n np H10 := by
              have z : g11 = svG g3 (vs (wy gB) S (k + 1)).2 := by rw [hg11, hg9]; rfl
              rw [hgV, ← z]
              exact hX11
            refine lv_bipush (v := nI 6) hx hb dX5_go_131 (by decide) ?_
            refine lv_iload hx hb dX5_go_133 (lv_at hl 1 rfl) ?_
            refine lv_imul hx hb dX5_go_135 ?_
            refine xtop (show ((nI 6) * (nI ((vs (wy gB) S (k + 1)).2))) = nI (6 * ((vs (wy gB) S (k + 1)).2)) from pk_mul 6 ((vs (wy gB) S (k + 1)).2)) ?_
            refine lv_istore (lv' := [(6, .int (nI (6 * ((vs (wy gB) S (k + 1)).2)))), (5, .int (nI ((vs (wy gB) S (k + 1)).1))), (4, .int (nI ((vs (wy gB) S (k + 1)).2))), (3, .int (nI (ll))), (0, .ref (b 0)), (1, .int (nI (S))), (2, .int (nI (L)))]) hx hb dX5_go_136 hl (by decide) rfl (fun ls hl => ?_)
            have LOOP138 : ∀ (n138 : Nat) (j : Nat) (lf : Nat) (g4 : Nat → Nat → Int32) (H : Heap) (locs : List Loc) (ls : Array Slot), (j ≤ 6) → (yW D cA b g4 tE n np H) → (g4 = (fu (svG g3 (vs (wy gB) S (k + 1)).2) (vs (wy gB) S (k + 1)).2 ll j).1) → (lf = (fu (svG g3 (vs (wy gB) S (k + 1)).2) (vs (wy gB) S (k + 1)).2 ll j).2) → va_S A s.heap H locs → (6 - j) < n138 → lv_has ls 8 [(6, .int (nI (6 * (vs (wy gB) S (k + 1)).2 + j))), (3, .int (nI (lf))), (4, .int (nI ((vs (wy gB) S (k + 1)).2))), (5, .int (nI ((vs (wy gB) S (k + 1)).1))), (0, .ref (b 0)), (1, .int (nI (S))), (2, .int (nI (L)))] → W p l e (headSpec w_X5_go ({ frames := 2, cells := 0, slots := 0, locals := 47 } : Room)).room s m ([.ref (b 0), .int ((nI S)), .int ((nI L))] : List Value).toArray below meth c H locs (0 + 0) (0 + 0) (MQ below (xQi (fun r h => ((okT n (nI S) ∧ okR 0 2000 (nI L)) ∧ r = nI (goS (wy g) (cl (nI S)) g (vp_updL (vp_updL tt 1 (tt 1 + (rtF g (cl (nI S))).toInt64)) 3 (tt 3 + 1)) (cl (nI L)) (bc (cl (nI S)))).2.2 ∧ ∃ g2, yW D cA b g2 (goS (wy g) (cl (nI S)) g (vp_updL (vp_updL tt 1 (tt 1 + (rtF g (cl (nI S))).toInt64)) 3 (tt 3 + 1)) (cl (nI L)) (bc (cl (nI S)))).2.1 n np h ∧ eqT (goS (wy g) (cl (nI S)) g (vp_updL (vp_updL tt 1 (tt 1 + (rtF g (cl (nI S))).toInt64)) 3 (tt 3 + 1)) (cl (nI L)) (bc (cl (nI S)))).1 g2 ∧ g2 21 = g 21 ∧ g2 20 0 = nI 0) ∨ (¬ (okT n (nI S) ∧ okR 0 2000 (nI L)) ∧ yW D cA b (thG g 1) tt n np h)) A) ([.ref (b 0), .int ((nI S)), .int ((nI L))] : List Value).toArray s 0 0 (A)) (F0 m 138 ls []) := by
              intro n138
              induction n138 with
              | zero => intro j lf g4 H locs ls hj hX4 hg4 hlf hS hmeas hl; exact absurd hmeas (Nat.not_lt_zero _)
              | succ n138 ih138 =>
                intro j lf g4 H locs ls hj hX4 hg4 hlf hS hmeas hl
                have hI4 : slInv g4 n := by rw [hg4]; exact fu_inv (inv_c hI3 (svG_t g3 (vs (wy gB) S (k + 1)).2 (by omega) (by omega)) (svG_t g3 (vs (wy gB) S (k + 1)).2 (by omega) (by omega)) (svG_t g3 (vs (wy gB) S (k + 1)).2 (by omega) (by omega))) v3 j hj
                have hlf2 : lf ≤ ll := by rw [hlf]; exact fu_le _ _ _ j
                refine lv_iload hx hb dX5_go_138 (lv_at hl 0 rfl) ?_
                refine lv_bipush (v := nI 6) hx hb dX5_go_140 (by decide) ?_
                refine lv_iload hx hb dX5_go_142 (lv_at hl 2 rfl) ?_
                refine lv_iconst (v := nI 1) hx hb dX5_go_144 (by decide) ?_
                refine lv_iadd hx hb dX5_go_145 ?_
                refine xtop (show ((nI ((vs (wy gB) S (k + 1)).2)) + (nI 1)) = nI (((vs (wy gB) S (k + 1)).2) + 1) from nI_add ((vs (wy gB) S (k + 1)).2) 1) ?_
                refine lv_imul hx hb dX5_go_146 ?_
                refine xtop (show ((nI 6) * (nI (((vs (wy gB) S (k + 1)).2) + 1))) = nI (6 * (((vs (wy gB) S (k + 1)).2) + 1)) from pk_mul 6 (((vs (wy gB) S (k + 1)).2) + 1)) ?_
                refine lv_icmp_ge (tgt := 194) hx hb dX5_go_147 (by decide) (fun c147 => ?_) (fun c147 => ?_)
                · have c147 : (6 * (((vs (wy gB) S (k + 1)).2) + 1)) ≤ (6 * (vs (wy gB) S (k + 1)).2 + j) := (nI_leI (a := 6 * (((vs (wy gB) S (k + 1)).2) + 1)) (b := 6 * (vs (wy gB) S (k + 1)).2 + j) (by omega) (by omega)).mp c147
                  have hj6 : j = 6 := by omega
                  refine lv_goto (tgt := 69) hx hb dX5_go_194 (by decide) ?_
                  exact ih69 (k + 1) lf g4 tE H locs _ (by omega) hX4 (by rw [hg4, hj6, hg3, hll]; rfl) (by rw [hlf, hj6, hg3, hll]; rfl) (fun j9 h9 => by rw [htE, hg3]; exact go_t ht3 j9 h9) (by rw [htE, pk_uLn (by omega)]; exact ht2) hS (by omega) (lv_sub hl [3, 2, 1, 4, 5, 6] rfl)
                · have c147 : ¬ ((6 * (((vs (wy gB) S (k + 1)).2) + 1)) ≤ (6 * (vs (wy gB) S (k + 1)).2 + j)) := fun z => c147 ((nI_leI (a := 6 * (((vs (wy gB) S (k + 1)).2) + 1)) (b := 6 * (vs (wy gB) S (k + 1)).2 + j) (by omega) (by omega)).mpr z)
                  have hlk := lk_eq (g := g4) (k := 6 * (vs (wy gB) S (k + 1)).2 + j) hI4 (by omega)
                  have hlk2 := hlk.2
                  refine lv_iload_n hx hb dX5_go_150 rfl (lv_at hl 1 rfl) ?_
                  refine lv_aload_n hx hb dX5_go_151 rfl (lv_at hl 4 rfl) ?_
                  refine va_get (D := D) (ci := 6) (v := .ref (b 5)) (C := RX5) (T := TX5) (N := 17) hx hb hts qi_X5 hown hK (xP1 (hX4.main)) 0 rfl rfl 7 (by decide) (hts _ q_fl_X5_22) (fun _ h9 => h9) rfl dX5_go_152 ?_
                  refine lv_iload hx hb dX5_go_155 (lv_at hl 0 rfl) ?_
                  refine va_iald hx hb hK (xP1 (hX4.t4)) 0 0 rfl rfl (i := nI (6 * (vs (wy gB) S (k + 1)).2 + j)) (vp_in_nI (n := 6 * (vs (wy gB) S (k + 1)).2 + j) (by omega) (by omega)) dX5_go_157 ?_
                  refine xtop (show ((fun z => g4 4 (z)) (nI (6 * (vs (wy gB) S (k + 1)).2 + j)).toNatClampNeg) = g4 4 (6 * (vs (wy gB) S (k + 1)).2 + j) from by rw [nI_clamp (n := 6 * (vs (wy gB) S (k + 1)).2 + j) (by omega)]) ?_
                  refine lv_aload_n hx hb dX5_go_158 rfl (lv_at hl 4 rfl) ?_
                  refine va_get (D := D) (ci := 6) (v := .ref (b 6)) (C := RX5) (T := TX5) (N := 17) hx hb hts qi_X5 hown hK (xP1 (hX4.main)) 0 rfl rfl 8 (by decide) (hts _ q_fl_X5_25) (fun _ h9 => h9) rfl dX5_go_159 ?_
                  refine lv_iload hx hb dX5_go_162 (lv_at hl 0 rfl) ?_
                  refine va_iald hx hb hK (xP1 (hX4.t5)) 0 0 rfl rfl (i := nI (6 * (vs (wy gB) S (k + 1)).2 + j)) (vp_in_nI (n := 6 * (vs (wy gB) S (k + 1)).2 + j) (by omega) (by omega)) dX5_go_164 ?_
                  refine xtop (show ((fun z => g4 5 (z)) (nI (6 * (vs (wy gB) S (k + 1)).2 + j)).toNatClampNeg) = g4 5 (6 * (vs (wy gB) S (k + 1)).2 + j) from by rw [nI_clamp (n := 6 * (vs (wy gB) S (k + 1)).2 + j) (by omega)]) ?_
                  refine lv_isub hx hb dX5_go_165 ?_
                  refine xtop (show ((g4 4 (6 * (vs (wy gB) S (k + 1)).2 + j)) - (g4 5 (6 * (vs (wy gB) S (k + 1)).2 + j))) = nI (lkN g4 (6 * (vs (wy gB) S (k + 1)).2 + j)) from hlk.1) ?_
                  refine va_mmin hx hb (hml.trans hl.1.symm) hown (hts _ q_ml_X5_78) (hts _ q_st_J9_min_7cf53) (hts _ q_ini_J9) (hts _ q_co_min) (Nat.le_of_ble_eq_true rfl) (Nat.le_of_ble_eq_true rfl) (Nat.le_of_ble_eq_true rfl) (Nat.le_of_ble_eq_true rfl) dX5_go_166 ?_
                  refine xtop (show (if nI (lkN g4 (6 * (vs (wy gB) S (k + 1)).2 + j)) < nI (lf) then nI (lkN g4 (6 * (vs (wy gB) S (k + 1)).2 + j)) else nI (lf)) = nI (min lf (lkN g4 (6 * (vs (wy gB) S (k + 1)).2 + j))) from mn_nI (by omega) (by omega)) ?_
                  refine lv_istore (lv' := [(7, .int (nI (min lf (lkN g4 (6 * (vs (wy gB) S (k + 1)).2 + j))))), (6, .int (nI (6 * (vs (wy gB) S (k + 1)).2 + j))), (3, .int (nI (lf))), (4, .int (nI ((vs (wy gB) S (k + 1)).2))), (5, .int (nI ((vs (wy gB) S (k + 1)).1))), (0, .ref (b 0)), (1, .int (nI (S))), (2, .int (nI (L)))]) hx hb dX5_go_169 hl (by decide) rfl (fun ls hl => ?_)
                  refine lv_aload_n hx hb dX5_go_171 rfl (lv_at hl 5 rfl) ?_
                  refine va_get (D := D) (ci := 6) (v := .ref (b 6)) (C := RX5) (T := TX5) (N := 17) hx hb hts qi_X5 hown hK (xP1 (hX4.main)) 0 rfl rfl 8 (by decide) (hts _ q_fl_X5_25) (fun _ h9 => h9) rfl dX5_go_172 ?_
                  refine lv_iload hx hb dX5_go_175 (lv_at hl 1 rfl) ?_
                  refine lv_dup2_11 hx hb dX5_go_177 rfl rfl ?_
                  refine va_iald hx hb hK (xP1 (hX4.t5)) 0 0 rfl rfl (i := nI (6 * (vs (wy gB) S (k + 1)).2 + j)) (vp_in_nI (n := 6 * (vs (wy gB) S (k + 1)).2 + j) (by omega) (by omega)) dX5_go_178 ?_
                  refine xtop (show ((fun z => g4 5 (z)) (nI (6 * (vs (wy gB) S (k + 1)).2 + j)).toNatClampNeg) = g4 5 (6 * (vs (wy gB) S (k + 1)).2 + j) from by rw [nI_clamp (n := 6 * (vs (wy gB) S (k + 1)).2 + j) (by omega)]) ?_
                  refine lv_iload hx hb dX5_go_179 (lv_at hl 0 rfl) ?_
                  refine lv_iadd hx hb dX5_go_181 ?_
                  refine xiast (D := D) hx hb hK hS 0 (hX4.t5) (hA.a (show 6 < 14 by omega)) rfl (i := nI (6 * (vs (wy gB) S (k + 1)).2 + j)) (x := (g4 5 (6 * (vs (wy gB) S (k + 1)).2 + j)) + (nI (min lf (lkN g4 (6 * (vs (wy gB) S (k + 1)).2 + j))))) (vp_in_nI (n := 6 * (vs (wy gB) S (k + 1)).2 + j) (by omega) (by omega)) dX5_go_182 (fun H12 locs hU hS => ?_)
                  rw [nI_clamp (n := 6 * (vs (wy gB) S (k + 1)).2 + j) (by omega)] at hU
                  have hX13 := hX4.p5 hA hU
                  obtain ⟨g13, hg13⟩ : ∃ z, z = va_up g4 5 (upd (g4 5) (6 * (vs (wy gB) S (k + 1)).2 + j) ((g4 5 (6 * (vs (wy gB) S (k + 1)).2 + j)) + (nI (min lf (lkN g4 (6 * (vs (wy gB) S (k + 1)).2 + j)))))) := ⟨_, rfl⟩
                  rw [← hg13] at hX13
                  refine lv_iload_n hx hb dX5_go_183 rfl (lv_at hl 2 rfl) ?_
                  refine lv_iload hx hb dX5_go_184 (lv_at hl 0 rfl) ?_
                  refine lv_isub hx hb dX5_go_186 ?_
                  refine xtop (show ((nI (lf)) - (nI (min lf (lkN g4 (6 * (vs (wy gB) S (k + 1)).2 + j))))) = nI (lf - min lf (lkN g4 (6 * (vs (wy gB) S (k + 1)).2 + j))) from pk_sub mn_le) ?_
                  refine lv_istore_n (lv' := [(3, .int (nI (lf - min lf (lkN g4 (6 * (vs (wy gB) S (k + 1)).2 + j))))), (7, .int (nI (min lf (lkN g4 (6 * (vs (wy gB) S (k + 1)).2 + j))))), (6, .int (nI (6 * (vs (wy gB) S (k + 1)).2 + j))), (4, .int (nI ((vs (wy gB) S (k + 1)).2))), (5, .int (nI ((vs (wy gB) S (k + 1)).1))), (0, .ref (b 0)), (1, .int (nI (S))), (2, .int (nI (L)))]) hx hb dX5_go_187 rfl hl (by decide) rfl (fun ls hl => ?_)
                  refine lv_iinc (v := nI (6 * (vs (wy gB) S (k + 1)).2 + j + 1)) (lv' := [(6, .int (nI (6 * (vs (wy gB) S (k + 1)).2 + j + 1))), (3, .int (nI (lf - min lf (lkN g4 (6 * (vs (wy gB) S (k + 1)).2 + j))))), (7, .int (nI (min lf (lkN g4 (6 * (vs (wy gB) S (k + 1)).2 + j))))), (4, .int (nI ((vs (wy gB) S (k + 1)).2))), (5, .int (nI ((vs (wy gB) S (k + 1)).1))), (0, .ref (b 0)), (1, .int (nI (S))), (2, .int (nI (L)))]) hx hb dX5_go_188 hl (k := 2) rfl (nI_add (6 * (vs (wy gB) S (k + 1)).2 + j) 1) (by decide) rfl (fun ls hl => ?_)
                  refine lv_goto (tgt := 138) hx hb dX5_go_191 (by decide) ?_
                  exact ih138 (j + 1) (lf - min lf (lkN g4 (6 * (vs (wy gB) S (k + 1)).2 + j))) g13 H12 locs _ (by omega) hX13 (by rw [hg13, hlf, hg4]; rfl) (by rw [hlf, hg4]; rfl) hS (by omega) (lv_sub hl [0, 1, 3, 4, 5, 6, 7] rfl)
            exact LOOP138 _ 0 ll gV H10 locs _ (by omega) hXV hgV rfl hS (Nat.lt_succ_self _) (lv_sub hl [0, 3, 2, 1, 4, 5, 6] rfl)
      exact LOOP69 _ 0 L gB tG H5 locs _ (Nat.zero_le _) hXtG rfl rfl (fun _ _ => rfl) rfl hS (Nat.lt_succ_self _) (lv_sub hl [0, 1, 2, 3, 4, 5] rfl)
    · refine lv_aload_n hx hb dX5_go_24 rfl (lv_at hl 0 rfl) ?_
      refine lv_iconst (v := nI 1) hx hb dX5_go_25 (by decide) ?_
      refine xci (va_runV (As := [.int (nI 1)]) (rest := []) ⟨hx, hb, hml, hown, hts⟩ (c_X5_fail l D cA e0 A H1 b g1 tt n np hX1 hA (nI 1)) ⟨(callB_of 1 hts gi_X5_fail rfl rfl rfl (hts _ q_ini_X5) (hts _ q_ml_X5_66) hd_X5_fail ⟨Nat.le_of_ble_eq_true rfl, Nat.le_of_ble_eq_true rfl⟩), hts _ q_im_X5_fail, hts _ q_sel_X5_X5_fail⟩ (xpV hE hS (hX1.main) rfl) rfl rfl hl.1 rfl (lv_room (Nat.le_of_ble_eq_true rfl)) dX5_go_26 ⟨Nat.le_of_ble_eq_true rfl, Nat.le_of_ble_eq_true rfl⟩) hS (fun q h => h) (fun r_14 H14 locs hP9 hz9 hk9 hS => ?_)
      obtain ⟨hr9, hXf⟩ := hP9
      have hXf : yW D cA b (thG g 1) tt n np H14 := by rw [← thG_2 g 0 1, ← hg1]; exact hXf
      have hpost : (fun r h => ((okT n (nI S) ∧ okR 0 2000 x) ∧ r = nI (goS (wy g) (cl (nI S)) g (vp_updL (vp_updL tt 1 (tt 1 + (rtF g (cl (nI S))).toInt64)) 3 (tt 3 + 1)) (cl x) (bc (cl (nI S)))).2.2 ∧ ∃ g2, yW D cA b g2 (goS (wy g) (cl (nI S)) g (vp_updL (vp_updL tt 1 (tt 1 + (rtF g (cl (nI S))).toInt64)) 3 (tt 3 + 1)) (cl x) (bc (cl (nI S)))).2.1 n np h ∧ eqT (goS (wy g) (cl (nI S)) g (vp_updL (vp_updL tt 1 (tt 1 + (rtF g (cl (nI S))).toInt64)) 3 (tt 3 + 1)) (cl x) (bc (cl (nI S)))).1 g2 ∧ g2 21 = g 21 ∧ g2 20 0 = nI 0) ∨ (¬ (okT n (nI S) ∧ okR 0 2000 x) ∧ yW D cA b (thG g 1) tt n np h)) (r_14) H14 := by
        exact Or.inr ⟨fun z => (in_0.mp c21) ((ou_r (a := 0) (b := 2000) (by omega) (by omega)).mpr z.2), hXf⟩
      refine W.widen (k := 0) (n := 0) (by omega) (by omega) ?_
      exact W.iret (v := r_14) hx hb hr (fun t ht _ => ⟨⟨r_14, H14, rfl, hpost, ht⟩, hS.F ht⟩) hS.2.2 dX5_go_29
