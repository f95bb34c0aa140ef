/-! The class: survey, ways set, ways home measured (by p16.py) -/
set_option maxHeartbeats 4000000 in
set_option maxRecDepth 100000 in
/-- survey() -/
theorem c_X4_survey (l : Launch) (D : va_G) (cA : Nat → ClassId) (e0 : Nat) (A : Nat → Prop) (H0 : Heap) (ad : Nat → Nat → Nat) (g : Nat → Nat → Int32) (tt : Nat → Int64) (N : Nat → Nat) (hX : xW D cA ad g tt N H0) (hA : xA A e0 ad N) : Met l yX4_survey w_X4_survey ({ frames := 3, cells := 0, slots := 0, locals := 64 } : Room) (xPc D cA e0 A H0 [.ref (ad 0 0)]) (xQv (fun h => ∃ g2, xW D cA ad g2 tt N h ∧ svOK g g2 (N 0)) A) 0 0 (A) := by
  refine Met.ofW (cc := cX4_survey) (maxL := 3) (ret := none) (by decide) rfl ?_
  intro p e s m args below meth c s₁ B hml hv
  obtain ⟨rfl, hH, hE⟩ := hv
  subst hH
  have hx := B.exec
  have hb := B.bytes
  have hr := B.returns
  have hts := hE.1.all ([.ref (ad 0 0)] : List Value).toArray
  have hown : s.vm.findClass RX4 = some m.cls := findClass_of_methodNamed B.named
  have hlocks := B.notSynchronized
  have hK := hE.2.1
  have hS : va_S A s.heap s.heap [] := va_S.rf
  have hl := lv_entry ([.ref (ad 0 0)]) (n := 3) (Nat.le_of_ble_eq_true rfl)
  rw [lg_entry_eq]
  generalize (lg_sl ([.ref (ad 0 0)]) ++ List.replicate (3 - (lg_sl ([.ref (ad 0 0)])).length) Slot.unset).toArray = ls at hl ⊢
  have hl : lv_has ls 3 [(0, .ref (ad 0 0))] := hl
  have hn8 := hA.n8
  refine lv_iconst (v := nI 0) hx hb dX4_survey_0 (by decide) ?_
  refine lv_istore_n (lv' := [(1, .int (nI 0)), (0, .ref (ad 0 0))]) hx hb dX4_survey_1 rfl hl (by decide) rfl (fun ls hl => ?_)
  have LOOP2 : ∀ (n2 : Nat) (i : Nat) (g1 : Nat → Nat → Int32) (H : Heap) (locs : List Loc) (ls : Array Slot), (i ≤ N 0) → (xW D cA ad g1 tt N H) → (svOK g g1 i) → va_S A s.heap H locs → (N 0 - i) < n2 → lv_has ls 3 [(1, .int (nI (i))), (0, .ref (ad 0 0))] → W p l e (headSpec w_X4_survey ({ frames := 3, cells := 0, slots := 0, locals := 64 } : Room)).room s m ([.ref (ad 0 0)] : List Value).toArray below meth c H locs 0 0 (MQ below (xQv (fun h => ∃ g2, xW D cA ad g2 tt N h ∧ svOK g g2 (N 0)) A) ([.ref (ad 0 0)] : List Value).toArray s 0 0 (A)) (F0 m 2 ls []) := by
    intro n2
    induction n2 with
    | zero => intro i g1 H locs ls hi hX1 hv hS hmeas hl; exact absurd hmeas (Nat.not_lt_zero _)
    | succ n2 ih2 =>
      intro i g1 H locs ls hi hX1 hv hS hmeas hl
      refine lv_iload_n hx hb dX4_survey_2 rfl (lv_at hl 0 rfl) ?_
      refine lv_aload_n hx hb dX4_survey_3 rfl (lv_at hl 1 rfl) ?_
      refine va_get (D := D) (ci := 5) (v := .ref (ad 0 1)) (C := RX4) (T := TX4) (N := 11) hx hb hts qi_X4 hown hK (xP1 (hX1.main)) 0 rfl rfl 0 (by decide) (hts _ q_fl_X4_10) (fun _ h9 => h9) rfl dX4_survey_4 ?_
      refine xcRi (va_runV (As := []) (rest := [.int (nI (i))]) ⟨hx, hb, hml, hown, hts⟩ (c_Jx4a65c_size_8abf5 l D cA e0 A H (ad 0 1) (g1 18 0) (ad 0 9) (nI (N 0)) (hX1.ml)) ⟨(callB_of 0 hts gi_Jx4a65c_size_8abf5 rfl rfl rfl (hts _ q_ini_Jx4a65c) (hts _ q_ml_X4_48) hd_Jx4a65c_size_8abf5 ⟨Nat.le_of_ble_eq_true rfl, Nat.le_of_ble_eq_true rfl⟩), hts _ q_im_Jx4a65c_size_8abf5, hts _ q_sel_Jx4a65c_Jx4a65c_size_8abf5⟩ (xpV hE hS (hX1.ml) rfl) rfl rfl hl.1 rfl (lv_room (Nat.le_of_ble_eq_true rfl)) dX4_survey_7 ⟨Nat.le_of_ble_eq_true rfl, Nat.le_of_ble_eq_true rfl⟩) ?_
      refine lv_icmp_ge (tgt := 61) hx hb dX4_survey_10 (by decide) (fun c10 => ?_) (fun c10 => ?_)
      · have c10 : (N 0) ≤ i := (nI_leI (a := N 0) (b := i) (by omega) (by omega)).mp c10
        have hiN : i = N 0 := by omega
        subst hiN
        have hpost := (⟨g1, hX1, hv⟩ : ∃ g2, xW D cA ad g2 tt N H ∧ svOK g g2 (N 0))
        refine W.widen (k := 0) (n := 0) (by omega) (by omega) ?_
        exact W.vret hx hb hr (fun t ht _ => ⟨⟨H, rfl, hpost, ht⟩, hS.F ht⟩) hS.2.2 dX4_survey_61
      · have c10 : ¬ ((N 0) ≤ i) := fun z => c10 ((nI_leI (a := N 0) (b := i) (by omega) (by omega)).mpr z)
        have c10 : i < N 0 := by omega
        refine lv_aload_n hx hb dX4_survey_13 rfl (lv_at hl 1 rfl) ?_
        refine va_get (D := D) (ci := 5) (v := .ref (ad 0 1)) (C := RX4) (T := TX4) (N := 11) hx hb hts qi_X4 hown hK (xP1 (hX1.main)) 0 rfl rfl 0 (by decide) (hts _ q_fl_X4_10) (fun _ h9 => h9) rfl dX4_survey_14 ?_
        refine lv_iload_n hx hb dX4_survey_17 rfl (lv_at hl 0 rfl) ?_
        refine xcRr (va_runV (As := [.int (nI (i))]) (rest := []) ⟨hx, hb, hml, hown, hts⟩ (c_Jx4a65c_get_915e3 l D cA e0 A H (ad 0 1) (g1 18 0) (ad 0 9) (N 0) (hX1.ml) (N 2) (fun j => if j < N 0 then some (ad 1 j) else none) (hX1.md (by have := hA.2.2.2.2.2.1; omega)) i (ad 1 i) c10 hA.2.2.2.2.2.1 (by have := hA.2.2.2.2.2.2.1; omega) (if_pos c10)) ⟨(callB_of 1 hts gi_Jx4a65c_get_915e3 rfl rfl rfl (hts _ q_ini_Jx4a65c) (hts _ q_ml_X4_199) hd_Jx4a65c_get_915e3 ⟨Nat.le_of_ble_eq_true rfl, Nat.le_of_ble_eq_true rfl⟩), hts _ q_im_Jx4a65c_get_915e3, hts _ q_sel_Jx4a65c_Jx4a65c_get_915e3⟩ (xpV hE hS (hX1.ml) rfl) rfl rfl hl.1 rfl (lv_room (Nat.le_of_ble_eq_true rfl)) dX4_survey_18 ⟨Nat.le_of_ble_eq_true rfl, Nat.le_of_ble_eq_true rfl⟩) ?_
        refine va_castS hx hb hown (hts _ q_cl_X4_57) (hK.1 1 _ rfl).2 (va_recv hK (xP1 (hX1.mach c10)) (ci := 1) (q0 := 0) rfl rfl) dX4_survey_21 ?_
        refine lv_astore_n (lv' := [(2, .ref (ad 1 i)), (1, .int (nI (i))), (0, .ref (ad 0 0))]) hx hb dX4_survey_24 rfl hl (by decide) rfl (fun ls hl => ?_)
        refine lv_aload_n hx hb dX4_survey_25 rfl (lv_at hl 2 rfl) ?_
        refine va_get (D := D) (ci := 5) (v := .ref (ad 0 5)) (C := RX4) (T := TX4) (N := 11) hx hb hts qi_X4 hown hK (xP1 (hX1.main)) 0 rfl rfl 4 (by decide) (hts _ q_fl_X4_30) (fun _ h9 => h9) rfl dX4_survey_26 ?_
        refine lv_iload_n hx hb dX4_survey_29 rfl (lv_at hl 1 rfl) ?_
        refine lv_aload_n hx hb dX4_survey_30 rfl (lv_at hl 0 rfl) ?_
        refine xcRi (va_runV (As := []) (rest := [.int (nI (i)), .ref (ad 0 5)]) ⟨hx, hb, hml, hown, hts⟩ (c_X0_lacking l D cA e0 A H ad g1 tt N hX1 i c10) ⟨(callB_of 0 hts gi_X0_lacking rfl rfl rfl (hts _ q_ini_X0) (hts _ q_ml_X4_253) hd_X0_lacking ⟨Nat.le_of_ble_eq_true rfl, Nat.le_of_ble_eq_true rfl⟩), hts _ q_im_X0_lacking, hts _ q_sel_X0_X0_lacking⟩ (xpV hE hS (hX1.mach c10) rfl) rfl rfl hl.1 rfl (lv_room (Nat.le_of_ble_eq_true rfl)) dX4_survey_31 ⟨Nat.le_of_ble_eq_true rfl, Nat.le_of_ble_eq_true rfl⟩) ?_
        refine xiast (D := D) hx hb hK hS 0 (hX1.lk) (hA.a (xV0 (by omega))) rfl (i := nI (i)) (x := lackF g1 i) (vp_in_nI (n := i) (by omega) (by omega)) dX4_survey_34 (fun H1 locs hU hS => ?_)
        rw [nI_clamp (n := i) (by omega)] at hU
        have hX2 := hX1.pr15 hA hU
        obtain ⟨g2, hg2⟩ : ∃ z, z = va_up g1 15 (upd (g1 15) (i) (lackF g1 i)) := ⟨_, rfl⟩
        rw [← hg2] at hX2
        refine lv_aload_n hx hb dX4_survey_35 rfl (lv_at hl 2 rfl) ?_
        refine va_get (D := D) (ci := 5) (v := .ref (ad 0 6)) (C := RX4) (T := TX4) (N := 11) hx hb hts qi_X4 hown hK (xP1 (hX2.main)) 0 rfl rfl 5 (by decide) (hts _ q_fl_X4_33) (fun _ h9 => h9) rfl dX4_survey_36 ?_
        refine lv_iload_n hx hb dX4_survey_39 rfl (lv_at hl 1 rfl) ?_
        refine lv_aload_n hx hb dX4_survey_40 rfl (lv_at hl 0 rfl) ?_
        refine xcRi (va_runV (As := []) (rest := [.int (nI (i)), .ref (ad 0 6)]) ⟨hx, hb, hml, hown, hts⟩ (c_X0_gain l D cA e0 A H1 ad g2 tt N hX2 i c10) ⟨(callB_of 0 hts gi_X0_gain rfl rfl rfl (hts _ q_ini_X0) (hts _ q_ml_X4_256) hd_X0_gain ⟨Nat.le_of_ble_eq_true rfl, Nat.le_of_ble_eq_true rfl⟩), hts _ q_im_X0_gain, hts _ q_sel_X0_X0_gain⟩ (xpV hE hS (hX2.mach c10) rfl) rfl rfl hl.1 rfl (lv_room (Nat.le_of_ble_eq_true rfl)) dX4_survey_41 ⟨Nat.le_of_ble_eq_true rfl, Nat.le_of_ble_eq_true rfl⟩) ?_
        refine xiast (D := D) hx hb hK hS 0 (hX2.gn) (hA.a (xV0 (by omega))) rfl (i := nI (i)) (x := gainF g2 i) (vp_in_nI (n := i) (by omega) (by omega)) dX4_survey_44 (fun H3 locs hU hS => ?_)
        rw [nI_clamp (n := i) (by omega)] at hU
        have hX4 := hX2.pr16 hA hU
        obtain ⟨g4, hg4⟩ : ∃ z, z = va_up g2 16 (upd (g2 16) (i) (gainF g2 i)) := ⟨_, rfl⟩
        rw [← hg4] at hX4
        refine lv_aload_n hx hb dX4_survey_45 rfl (lv_at hl 2 rfl) ?_
        refine va_get (D := D) (ci := 5) (v := .ref (ad 0 4)) (C := RX4) (T := TX4) (N := 11) hx hb hts qi_X4 hown hK (xP1 (hX4.main)) 0 rfl rfl 3 (by decide) (hts _ q_fl_X4_26) (fun _ h9 => h9) rfl dX4_survey_46 ?_
        refine lv_iload_n hx hb dX4_survey_49 rfl (lv_at hl 1 rfl) ?_
        refine lv_aload_n hx hb dX4_survey_50 rfl (lv_at hl 0 rfl) ?_
        refine xcRi (va_runV (As := []) (rest := [.int (nI (i)), .ref (ad 0 4)]) ⟨hx, hb, hml, hown, hts⟩ (c_X0_visitTime l D cA e0 A H3 ad g4 tt N hX4 i c10) ⟨(callB_of 0 hts gi_X0_visitTime rfl rfl rfl (hts _ q_ini_X0) (hts _ q_ml_X4_259) hd_X0_visitTime ⟨Nat.le_of_ble_eq_true rfl, Nat.le_of_ble_eq_true rfl⟩), hts _ q_im_X0_visitTime, hts _ q_sel_X0_X0_visitTime⟩ (xpV hE hS (hX4.mach c10) rfl) rfl rfl hl.1 rfl (lv_room (Nat.le_of_ble_eq_true rfl)) dX4_survey_51 ⟨Nat.le_of_ble_eq_true rfl, Nat.le_of_ble_eq_true rfl⟩) ?_
        refine xiast (D := D) hx hb hK hS 0 (hX4.vt) (hA.a (xV0 (by omega))) rfl (i := nI (i)) (x := vtF g4 i) (vp_in_nI (n := i) (by omega) (by omega)) dX4_survey_54 (fun H5 locs hU hS => ?_)
        rw [nI_clamp (n := i) (by omega)] at hU
        have hX6 := hX4.pr14 hA hU
        obtain ⟨g6, hg6⟩ : ∃ z, z = va_up g4 14 (upd (g4 14) (i) (vtF g4 i)) := ⟨_, rfl⟩
        rw [← hg6] at hX6
        refine lv_iinc (v := nI (i + 1)) (lv' := [(1, .int (nI (i + 1))), (2, .ref (ad 1 i)), (0, .ref (ad 0 0))]) hx hb dX4_survey_55 hl (k := 1) rfl (nI_add i 1) (by decide) rfl (fun ls hl => ?_)
        refine lv_goto (tgt := 2) hx hb dX4_survey_58 (by decide) ?_
        exact ih2 (i + 1) g6 H5 locs _ (by omega) hX6 (by rw [hg6, hg4, hg2]; exact sv_step hv) hS (by omega) (lv_sub hl [0, 2] rfl)
  exact LOOP2 _ 0 g s.heap [] _ (by omega) hX ⟨fun _ _ _ _ => rfl, fun i h => absurd h (Nat.not_lt_zero _)⟩ hS (Nat.lt_succ_self _) (lv_sub hl [0, 1] rfl)
set_option maxHeartbeats 4000000 in
set_option maxRecDepth 100000 in
/-- Roads.setBetween(a, b, v) -/
theorem c_X2_setBetween (l : Launch) (D : va_G) (cA : Nat → ClassId) (e0 : Nat) (A : Nat → Prop) (H0 : Heap) (ad : Nat → Nat → Nat) (g : Nat → Nat → Int32) (tt : Nat → Int64) (N : Nat → Nat) (hX : xW D cA ad g tt N H0) (hA : xA A e0 ad N) (a b v : Int32) (pa pb : Nat) (ha : isPl a pa) (hb9 : isPl b pb) : Met l yX2_setBetween w_X2_setBetween ({ frames := 0, cells := 0, slots := 0, locals := 0 } : Room) (xPc D cA e0 A H0 [.ref (ad 0 3), .int (a), .int (b), .int (v)]) (xQv (fun h => xW D cA ad (va_up g 3 (swF (g 3) pa pb v)) tt N h) A) 0 0 (A) := by
  refine Met.ofW (cc := cX2_setBetween) (maxL := 4) (ret := none) (by decide) rfl ?_
  intro p e s m args below meth c s₁ B hml hv
  obtain ⟨rfl, hH, hE⟩ := hv
  subst hH
  have hx := B.exec
  have hb := B.bytes
  have hr := B.returns
  have hts := hE.1.all ([.ref (ad 0 3), .int (a), .int (b), .int (v)] : List Value).toArray
  have hown : s.vm.findClass RX2 = some m.cls := findClass_of_methodNamed B.named
  have hlocks := B.notSynchronized
  have hK := hE.2.1
  have hS : va_S A s.heap s.heap [] := va_S.rf
  have hl := lv_entry ([.ref (ad 0 3), .int (a), .int (b), .int (v)]) (n := 4) (Nat.le_of_ble_eq_true rfl)
  rw [lg_entry_eq]
  generalize (lg_sl ([.ref (ad 0 3), .int (a), .int (b), .int (v)]) ++ List.replicate (4 - (lg_sl ([.ref (ad 0 3), .int (a), .int (b), .int (v)])).length) Slot.unset).toArray = ls at hl ⊢
  have hl : lv_has ls 4 [(0, .ref (ad 0 3)), (1, .int (a)), (2, .int (b)), (3, .int (v))] := hl
  have ha8 := ha.1
  have hb8 := hb9.1
  refine lv_aload_n hx hb dX2_setBetween_0 rfl (lv_at hl 0 rfl) ?_
  refine va_get (D := D) (ci := 3) (v := .ref (ad 0 7)) (C := RX2) (T := TX2) (N := 2) hx hb hts qi_X2 hown hK (xP1 (hX.roads)) 0 rfl rfl 0 (by decide) (hts _ q_fl_X2_11) (fun _ h9 => h9) rfl dX2_setBetween_1 ?_
  refine lv_iload_n hx hb dX2_setBetween_4 rfl (lv_at hl 1 rfl) ?_
  refine lv_iconst (v := nI 1) hx hb dX2_setBetween_5 (by decide) ?_
  refine lv_iadd hx hb dX2_setBetween_6 ?_
  refine xtop (show (a + (nI 1)) = nI ((pa + 1) % 9) from ha.2) ?_
  refine lv_bipush (v := nI 9) hx hb dX2_setBetween_7 (by decide) ?_
  refine lv_imul hx hb dX2_setBetween_9 ?_
  refine xtop (show ((nI ((pa + 1) % 9)) * (nI 9)) = nI (((pa + 1) % 9) * 9) from pk_mul ((pa + 1) % 9) 9) ?_
  refine lv_iload_n hx hb dX2_setBetween_10 rfl (lv_at hl 2 rfl) ?_
  refine lv_iadd hx hb dX2_setBetween_11 ?_
  refine lv_iconst (v := nI 1) hx hb dX2_setBetween_12 (by decide) ?_
  refine lv_iadd hx hb dX2_setBetween_13 ?_
  refine xtop (show (((nI (((pa + 1) % 9) * 9)) + b) + (nI 1)) = nI ((pa + 1) % 9 * 9 + (pb + 1) % 9) from pl_ix ha hb9) ?_
  refine lv_iload_n hx hb dX2_setBetween_14 rfl (lv_at hl 3 rfl) ?_
  refine xiast (D := D) hx hb hK hS 0 (hX.mi) (hA.a (xV0 (by omega))) rfl (i := nI ((pa + 1) % 9 * 9 + (pb + 1) % 9)) (x := v) (vp_in_nI (n := (pa + 1) % 9 * 9 + (pb + 1) % 9) (by omega) (by omega)) dX2_setBetween_15 (fun H1 locs hU hS => ?_)
  rw [nI_clamp (n := (pa + 1) % 9 * 9 + (pb + 1) % 9) (by omega)] at hU
  have hX2 := hX.pw hA ha8 hb8 hU
  refine lv_aload_n hx hb dX2_setBetween_16 rfl (lv_at hl 0 rfl) ?_
  refine va_get (D := D) (ci := 3) (v := .ref (ad 0 7)) (C := RX2) (T := TX2) (N := 2) hx hb hts qi_X2 hown hK (xP1 (hX2.roads)) 0 rfl rfl 0 (by decide) (hts _ q_fl_X2_11) (fun _ h9 => h9) rfl dX2_setBetween_17 ?_
  refine lv_iload_n hx hb dX2_setBetween_20 rfl (lv_at hl 2 rfl) ?_
  refine lv_iconst (v := nI 1) hx hb dX2_setBetween_21 (by decide) ?_
  refine lv_iadd hx hb dX2_setBetween_22 ?_
  refine xtop (show (b + (nI 1)) = nI ((pb + 1) % 9) from hb9.2) ?_
  refine lv_bipush (v := nI 9) hx hb dX2_setBetween_23 (by decide) ?_
  refine lv_imul hx hb dX2_setBetween_25 ?_
  refine xtop (show ((nI ((pb + 1) % 9)) * (nI 9)) = nI (((pb + 1) % 9) * 9) from pk_mul ((pb + 1) % 9) 9) ?_
  refine lv_iload_n hx hb dX2_setBetween_26 rfl (lv_at hl 1 rfl) ?_
  refine lv_iadd hx hb dX2_setBetween_27 ?_
  refine lv_iconst (v := nI 1) hx hb dX2_setBetween_28 (by decide) ?_
  refine lv_iadd hx hb dX2_setBetween_29 ?_
  refine xtop (show (((nI (((pb + 1) % 9) * 9)) + a) + (nI 1)) = nI ((pb + 1) % 9 * 9 + (pa + 1) % 9) from pl_ix hb9 ha) ?_
  refine lv_iload_n hx hb dX2_setBetween_30 rfl (lv_at hl 3 rfl) ?_
  refine xiast (D := D) hx hb hK hS 0 (hX2.mi) (hA.a (xV0 (by omega))) rfl (i := nI ((pb + 1) % 9 * 9 + (pa + 1) % 9)) (x := v) (vp_in_nI (n := (pb + 1) % 9 * 9 + (pa + 1) % 9) (by omega) (by omega)) dX2_setBetween_31 (fun H3 locs hU hS => ?_)
  rw [nI_clamp (n := (pb + 1) % 9 * 9 + (pa + 1) % 9) (by omega)] at hU
  have hX4 := hX2.pw hA hb8 ha8 hU
  have hpost := (show xW D cA ad (va_up g 3 (swF (g 3) pa pb v)) tt N H3 from by
      have e : va_up (va_up g 3 (upd (g 3) (9 * pa + pb) v)) 3 (upd (va_up g 3 (upd (g 3) (9 * pa + pb) v) 3) (9 * pb + pa) v) = va_up g 3 (swF (g 3) pa pb v) := by
        funext z
        by_cases hz : z = 3
        · subst hz
          rw [up_eq, up_eq, up_eq]
          rfl
        · rw [up_ne hz, up_ne hz, up_ne hz]
      rw [← e]
      exact hX4)
  refine W.widen (k := 0) (n := 0) (by omega) (by omega) ?_
  exact W.vret hx hb hr (fun t ht _ => ⟨⟨H3, rfl, hpost, ht⟩, hS.F ht⟩) hS.2.2 dX2_setBetween_32
set_option maxHeartbeats 4000000 in
set_option maxRecDepth 100000 in
/-- Roads.measureTours(n) -/
theorem c_X2_measureTours (l : Launch) (D : va_G) (cA : Nat → ClassId) (e0 : Nat) (A : Nat → Prop) (H0 : Heap) (ad : Nat → Nat → Nat) (g : Nat → Nat → Int32) (tt : Nat → Int64) (N : Nat → Nat) (hX : xW D cA ad g tt N H0) (hA : xA A e0 ad N) : Met l yX2_measureTours w_X2_measureTours ({ frames := 4, cells := 0, slots := 0, locals := 93 } : Room) (xPc D cA e0 A H0 [.ref (ad 0 3), .int (nI (N 0))]) (xQv (fun h => ∃ g2, xW D cA ad g2 tt N h ∧ (∀ k, k ≠ 17 → g2 k = g k) ∧ hwAll g2 (N 0)) A) 0 0 (A) := by
  refine Met.ofW (cc := cX2_measureTours) (maxL := 5) (ret := none) (by decide) rfl ?_
  intro p e s m args below meth c s₁ B hml hv
  obtain ⟨rfl, hH, hE⟩ := hv
  subst hH
  have hx := B.exec
  have hb := B.bytes
  have hr := B.returns
  have hts := hE.1.all ([.ref (ad 0 3), .int (nI (N 0))] : List Value).toArray
  have hown : s.vm.findClass RX2 = some m.cls := findClass_of_methodNamed B.named
  have hlocks := B.notSynchronized
  have hK := hE.2.1
  have hS : va_S A s.heap s.heap [] := va_S.rf
  have hl := lv_entry ([.ref (ad 0 3), .int (nI (N 0))]) (n := 5) (Nat.le_of_ble_eq_true rfl)
  rw [lg_entry_eq]
  generalize (lg_sl ([.ref (ad 0 3), .int (nI (N 0))]) ++ List.replicate (5 - (lg_sl ([.ref (ad 0 3), .int (nI (N 0))])).length) Slot.unset).toArray = ls at hl ⊢
  have hl : lv_has ls 5 [(0, .ref (ad 0 3)), (1, .int (nI (N 0)))] := hl
  have hn8 := hA.n8
  have h256 := pow256 hn8
  have hpp := Nat.two_pow_pos (N 0)
  refine lv_iconst (v := nI 1) hx hb dX2_measureTours_0 (by decide) ?_
  refine lv_iload_n hx hb dX2_measureTours_1 rfl (lv_at hl 1 rfl) ?_
  refine lv_ishl hx hb dX2_measureTours_2 ?_
  refine xtop (show ((nI 1) <<< (nI (N 0) &&& 31)) = nI (2 ^ N 0) from p_pw (N 0) (by omega)) ?_
  refine lv_istore_n (lv' := [(2, .int (nI (2 ^ N 0))), (0, .ref (ad 0 3)), (1, .int (nI (N 0)))]) hx hb dX2_measureTours_3 rfl hl (by decide) rfl (fun ls hl => ?_)
  refine lv_iconst (v := nI 1) hx hb dX2_measureTours_4 (by decide) ?_
  refine lv_istore_n (lv' := [(3, .int (nI 1)), (2, .int (nI (2 ^ N 0))), (0, .ref (ad 0 3)), (1, .int (nI (N 0)))]) hx hb dX2_measureTours_5 rfl hl (by decide) rfl (fun ls hl => ?_)
  have LOOP6 : ∀ (n6 : Nat) (S : Nat) (g1 : Nat → Nat → Int32) (H : Heap) (locs : List Loc) (ls : Array Slot), (1 ≤ S ∧ S ≤ 2 ^ N 0) → (xW D cA ad g1 tt N H) → (mtOK g g1 S 0) → va_S A s.heap H locs → (2 ^ N 0 - S) < n6 → lv_has ls 5 [(3, .int (nI (S))), (2, .int (nI (2 ^ N 0))), (1, .int (nI (N 0))), (0, .ref (ad 0 3))] → W p l e (headSpec w_X2_measureTours ({ frames := 4, cells := 0, slots := 0, locals := 93 } : Room)).room s m ([.ref (ad 0 3), .int (nI (N 0))] : List Value).toArray below meth c H locs 0 0 (MQ below (xQv (fun h => ∃ g2, xW D cA ad g2 tt N h ∧ (∀ k, k ≠ 17 → g2 k = g k) ∧ hwAll g2 (N 0)) A) ([.ref (ad 0 3), .int (nI (N 0))] : List Value).toArray s 0 0 (A)) (F0 m 6 ls []) := by
    intro n6
    induction n6 with
    | zero => intro S g1 H locs ls hS1 hX1 hm hS hmeas hl; exact absurd hmeas (Nat.not_lt_zero _)
    | succ n6 ih6 =>
      intro S g1 H locs ls hS1 hX1 hm hS hmeas hl
      refine lv_iload_n hx hb dX2_measureTours_6 rfl (lv_at hl 0 rfl) ?_
      refine lv_iload_n hx hb dX2_measureTours_7 rfl (lv_at hl 1 rfl) ?_
      refine lv_icmp_ge (tgt := 65) hx hb dX2_measureTours_8 (by decide) (fun c8 => ?_) (fun c8 => ?_)
      · have c8 : (2 ^ N 0) ≤ S := (nI_leI (a := 2 ^ N 0) (b := S) (by omega) (by omega)).mp c8
        have hSe : S = 2 ^ N 0 := by omega
        subst hSe
        have hpost := (⟨g1, hX1, hm.1, hm.2.1⟩ : ∃ g2, xW D cA ad g2 tt N H ∧ (∀ k, k ≠ 17 → g2 k = g k) ∧ hwAll g2 (N 0))
        refine W.widen (k := 0) (n := 0) (by omega) (by omega) ?_
        exact W.vret hx hb hr (fun t ht _ => ⟨⟨H, rfl, hpost, ht⟩, hS.F ht⟩) hS.2.2 dX2_measureTours_65
      · have c8 : ¬ ((2 ^ N 0) ≤ S) := fun z => c8 ((nI_leI (a := 2 ^ N 0) (b := S) (by omega) (by omega)).mpr z)
        have c8 : S < 2 ^ N 0 := by omega
        have hSt : S < 256 := by omega
        refine lv_iconst (v := nI 0) hx hb dX2_measureTours_11 (by decide) ?_
        refine lv_istore (lv' := [(4, .int (nI 0)), (3, .int (nI (S))), (2, .int (nI (2 ^ N 0))), (1, .int (nI (N 0))), (0, .ref (ad 0 3))]) hx hb dX2_measureTours_12 hl (by decide) rfl (fun ls hl => ?_)
        have LOOP14 : ∀ (n14 : Nat) (k : Nat) (g3 : Nat → Nat → Int32) (H : Heap) (locs : List Loc) (ls : Array Slot), (k ≤ N 0) → (xW D cA ad g3 tt N H) → (mtOK g g3 S k) → va_S A s.heap H locs → (N 0 - k) < n14 → lv_has ls 5 [(4, .int (nI (k))), (3, .int (nI (S))), (2, .int (nI (2 ^ N 0))), (1, .int (nI (N 0))), (0, .ref (ad 0 3))] → W p l e (headSpec w_X2_measureTours ({ frames := 4, cells := 0, slots := 0, locals := 93 } : Room)).room s m ([.ref (ad 0 3), .int (nI (N 0))] : List Value).toArray below meth c H locs 0 0 (MQ below (xQv (fun h => ∃ g2, xW D cA ad g2 tt N h ∧ (∀ k, k ≠ 17 → g2 k = g k) ∧ hwAll g2 (N 0)) A) ([.ref (ad 0 3), .int (nI (N 0))] : List Value).toArray s 0 0 (A)) (F0 m 14 ls []) := by
          intro n14
          induction n14 with
          | zero => intro k g3 H locs ls hk hX3 hm3 hS hmeas hl; exact absurd hmeas (Nat.not_lt_zero _)
          | succ n14 ih14 =>
            intro k g3 H locs ls hk hX3 hm3 hS hmeas hl
            refine lv_iload hx hb dX2_measureTours_14 (lv_at hl 0 rfl) ?_
            refine lv_iload_n hx hb dX2_measureTours_16 rfl (lv_at hl 3 rfl) ?_
            refine lv_icmp_ge (tgt := 59) hx hb dX2_measureTours_17 (by decide) (fun c17 => ?_) (fun c17 => ?_)
            · have c17 : (N 0) ≤ k := (nI_leI (a := N 0) (b := k) (by omega) (by omega)).mp c17
              have hkN : k = N 0 := by omega
              refine lv_iinc (v := nI (S + 1)) (lv' := [(3, .int (nI (S + 1))), (4, .int (nI (k))), (2, .int (nI (2 ^ N 0))), (1, .int (nI (N 0))), (0, .ref (ad 0 3))]) hx hb dX2_measureTours_59 hl (k := 1) rfl (nI_add S 1) (by decide) rfl (fun ls hl => ?_)
              refine lv_goto (tgt := 6) hx hb dX2_measureTours_62 (by decide) ?_
              exact ih6 (S + 1) g3 H locs _ (by omega) hX3 (by rw [hkN] at hm3; exact mt_next hm3 hn8 c8) hS (by omega) (lv_sub hl [0, 2, 3, 4] rfl)
            · have c17 : ¬ ((N 0) ≤ k) := fun z => c17 ((nI_leI (a := N 0) (b := k) (by omega) (by omega)).mpr z)
              refine lv_iload_n hx hb dX2_measureTours_20 rfl (lv_at hl 1 rfl) ?_
              refine lv_iload hx hb dX2_measureTours_21 (lv_at hl 0 rfl) ?_
              refine xcRi (va_runSN (As := [.int (nI (S)), .int (nI (k))]) (rest := []) ⟨hx, hb, hml, hown, hts⟩ (c_X4_contains l D cA e0 A H S k hSt (by omega)) ⟨(va_cnB 2 hts gi_X4_contains rfl rfl rfl (hE.1 _ q_mn_X2_18) (hts _ q_ini_X4) hd_X4_contains ⟨Nat.le_of_ble_eq_true rfl, Nat.le_of_ble_eq_true rfl⟩), hts _ q_st_X4_contains, trivial⟩ (xpS hE hS) rfl rfl hl.1 rfl (lv_room (Nat.le_of_ble_eq_true rfl)) dX2_measureTours_23 ⟨Nat.le_of_ble_eq_true rfl, Nat.le_of_ble_eq_true rfl⟩) ?_
              refine lv_if_eq (tgt := 53) hx hb dX2_measureTours_26 (by decide) (fun c26 => ?_) (fun c26 => ?_)
              · have hbit : ¬ S.testBit k = true := fun z => by rw [if_pos z] at c26; exact absurd c26 (by decide)
                refine lv_iinc (v := nI (k + 1)) (lv' := [(4, .int (nI (k + 1))), (3, .int (nI (S))), (2, .int (nI (2 ^ N 0))), (1, .int (nI (N 0))), (0, .ref (ad 0 3))]) hx hb dX2_measureTours_53 hl (k := 0) rfl (nI_add k 1) (by decide) rfl (fun ls hl => ?_)
                refine lv_goto (tgt := 14) hx hb dX2_measureTours_56 (by decide) ?_
                exact ih14 (k + 1) g3 H locs _ (by omega) hX3 (mt_no hm3 hbit) hS (by omega) (lv_sub hl [0, 1, 2, 3, 4] rfl)
              · have hbit : S.testBit k = true := by
                  cases hq : S.testBit k with
                  | true => rfl
                  | false => rw [hq] at c26; exact absurd rfl c26
                have hle := bit_le hbit
                have hp2 := Nat.two_pow_pos k
                refine lv_aload_n hx hb dX2_measureTours_29 rfl (lv_at hl 4 rfl) ?_
                refine va_get (D := D) (ci := 3) (v := .ref (ad 0 8)) (C := RX2) (T := TX2) (N := 2) hx hb hts qi_X2 hown hK (xP1 (hX3.roads)) 0 rfl rfl 1 (by decide) (hts _ q_fl_X2_15) (fun _ h9 => h9) rfl dX2_measureTours_30 ?_
                refine lv_iload_n hx hb dX2_measureTours_33 rfl (lv_at hl 1 rfl) ?_
                refine lv_bipush (v := nI 8) hx hb dX2_measureTours_34 (by decide) ?_
                refine lv_imul hx hb dX2_measureTours_36 ?_
                refine xtop (show ((nI (S)) * (nI 8)) = nI (S * 8) from pk_mul S 8) ?_
                refine lv_iload hx hb dX2_measureTours_37 (lv_at hl 0 rfl) ?_
                refine lv_iadd hx hb dX2_measureTours_39 ?_
                refine xtop (show ((nI (S * 8)) + (nI (k))) = nI ((S * 8) + k) from nI_add (S * 8) k) ?_
                refine lv_aload_n hx hb dX2_measureTours_40 rfl (lv_at hl 4 rfl) ?_
                refine lv_iload hx hb dX2_measureTours_41 (lv_at hl 0 rfl) ?_
                refine lv_iload_n hx hb dX2_measureTours_43 rfl (lv_at hl 1 rfl) ?_
                refine lv_iload hx hb dX2_measureTours_44 (lv_at hl 0 rfl) ?_
                refine xcRi (va_runSN (As := [.int (nI (S)), .int (nI (k))]) (rest := [.int (nI (k)), .ref (ad 0 3), .int (nI ((S * 8) + k)), .ref (ad 0 8)]) ⟨hx, hb, hml, hown, hts⟩ (c_X4_without l D cA e0 A H S k hSt (by omega) hbit) ⟨(va_cnB 2 hts gi_X4_without rfl rfl rfl (hE.1 _ q_mn_X2_22) (hts _ q_ini_X4) hd_X4_without ⟨Nat.le_of_ble_eq_true rfl, Nat.le_of_ble_eq_true rfl⟩), hts _ q_st_X4_without, trivial⟩ (xpS hE hS) rfl rfl hl.1 rfl (lv_room (Nat.le_of_ble_eq_true rfl)) dX2_measureTours_46 ⟨Nat.le_of_ble_eq_true rfl, Nat.le_of_ble_eq_true rfl⟩) ?_
                refine xcRi (va_runV (As := [.int (nI (k)), .int (nI (S - 2 ^ k))]) (rest := [.int (nI ((S * 8) + k)), .ref (ad 0 8)]) ⟨hx, hb, hml, hown, hts⟩ (c_X2_leastFrom l D cA e0 A H ad g3 tt N hX3 (nI k) k (S - 2 ^ k) (isPl_m (by omega)) (by omega) (hm3.2.1 _ (by omega))) ⟨(callB_of 2 hts gi_X2_leastFrom rfl rfl rfl (hts _ q_ini_X2) (hts _ q_ml_X2_26) hd_X2_leastFrom ⟨Nat.le_of_ble_eq_true rfl, Nat.le_of_ble_eq_true rfl⟩), hts _ q_im_X2_leastFrom, hts _ q_sel_X2_X2_leastFrom⟩ (xpV hE hS (hX3.roads) rfl) rfl rfl hl.1 rfl (lv_room (Nat.le_of_ble_eq_true rfl)) dX2_measureTours_49 ⟨Nat.le_of_ble_eq_true rfl, Nat.le_of_ble_eq_true rfl⟩) ?_
                refine xiast (D := D) hx hb hK hS 0 (hX3.hw) (hA.a (xV0 (by omega))) rfl (i := nI ((S * 8) + k)) (x := tw (wy g3) (S - 2 ^ k) k) (vp_in_nI (n := (S * 8) + k) (by omega) (by omega)) dX2_measureTours_52 (fun H1 locs hU hS => ?_)
                rw [nI_clamp (n := (S * 8) + k) (by omega)] at hU
                have hX2 := hX3.pr17 hA hU
                obtain ⟨g2, hg2⟩ : ∃ z, z = va_up g3 17 (upd (g3 17) ((S * 8) + k) (tw (wy g3) (S - 2 ^ k) k)) := ⟨_, rfl⟩
                rw [← hg2] at hX2
                refine lv_iinc (v := nI (k + 1)) (lv' := [(4, .int (nI (k + 1))), (3, .int (nI (S))), (2, .int (nI (2 ^ N 0))), (1, .int (nI (N 0))), (0, .ref (ad 0 3))]) hx hb dX2_measureTours_53 hl (k := 0) rfl (nI_add k 1) (by decide) rfl (fun ls hl => ?_)
                refine lv_goto (tgt := 14) hx hb dX2_measureTours_56 (by decide) ?_
                exact ih14 (k + 1) g2 H1 locs _ (by omega) hX2 (by rw [hg2]; exact mt_yes hm3 (by omega)) hS (by omega) (lv_sub hl [0, 1, 2, 3, 4] rfl)
        exact LOOP14 _ 0 g1 H locs _ (by omega) hX1 hm hS (Nat.lt_succ_self _) (lv_sub hl [0, 1, 2, 3, 4] rfl)
  exact LOOP6 _ 1 g s.heap [] _ (by omega) hX (mt_0 g) hS (Nat.lt_succ_self _) (lv_sub hl [0, 1, 3, 2] rfl)
