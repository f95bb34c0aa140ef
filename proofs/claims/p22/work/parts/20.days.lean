/-! The class: a day sold, machines served, rounds (by p20.py) -/
set_option maxHeartbeats 4000000 in
set_option maxRecDepth 100000 in
/-- Machine.emptyBox() -/
theorem c_X0_emptyBox (l : Launch) (D : va_G) (cA : Nat → ClassId) (e0 : Nat) (A : Nat → Prop) (H0 : Heap) (ad : Nat → Nat → Nat) (g : Nat → Nat → Int32) (tt : Nat → Int64) (N : Nat → Nat) (hX : xW D cA ad g tt N H0) (hA : xA A e0 ad N) (i0 : Nat) (hi0 : i0 < N 0) : Met l yX0_emptyBox w_X0_emptyBox ({ frames := 0, cells := 0, slots := 0, locals := 0 } : Room) (xPc D cA e0 A H0 [.ref (ad 1 i0)]) (xQi (fun r h => r = g 1 i0 ∧ xW D cA ad (va_up g 1 (upd (g 1) i0 (nI 0))) tt N h) A) 0 0 (A) := by
  refine Met.ofW (cc := cX0_emptyBox) (maxL := 2) (ret := (some .int)) (by decide) rfl ?_
  intro p e s m args below meth c s₁ B hml hv
  obtain ⟨rfl, hH, hE⟩ := hv
  subst hH
  have hx := B.exec
  have hb := B.bytes
  have hr := B.returns
  have hts := hE.1.all ([.ref (ad 1 i0)] : List Value).toArray
  have hown : s.vm.findClass RX0 = some m.cls := findClass_of_methodNamed B.named
  have hlocks := B.notSynchronized
  have hK := hE.2.1
  have hS : va_S A s.heap s.heap [] := va_S.rf
  have hl := lv_entry ([.ref (ad 1 i0)]) (n := 2) (Nat.le_of_ble_eq_true rfl)
  rw [lg_entry_eq]
  generalize (lg_sl ([.ref (ad 1 i0)]) ++ List.replicate (2 - (lg_sl ([.ref (ad 1 i0)])).length) Slot.unset).toArray = ls at hl ⊢
  have hl : lv_has ls 2 [(0, .ref (ad 1 i0))] := hl
  refine lv_aload_n hx hb dX0_emptyBox_0 rfl (lv_at hl 0 rfl) ?_
  refine va_get (D := D) (ci := 1) (v := .int (g 1 i0)) (C := RX0) (T := TX0) (N := 4) hx hb hts qi_X0 hown hK (xP1 (hX.mach hi0)) 0 rfl rfl 2 (by decide) (hts _ q_fl_X0_26) (fun _ h9 => h9) rfl dX0_emptyBox_1 ?_
  refine lv_istore_n (lv' := [(1, .int (g 1 i0)), (0, .ref (ad 1 i0))]) hx hb dX0_emptyBox_4 rfl hl (by decide) rfl (fun ls hl => ?_)
  refine lv_aload_n hx hb dX0_emptyBox_5 rfl (lv_at hl 1 rfl) ?_
  refine lv_iconst (v := nI 0) hx hb dX0_emptyBox_6 (by decide) ?_
  refine xput (D := D) (ci := 1) (v := .int (nI 0)) (C := RX0) (T := TX0) (N := 4) hx hb hts qi_X0 tyX0 tyX0_ok nmX0 hown hK hS (hX.mach hi0) (hA.a (xV1 hi0)) rfl 2 (by decide) (hts _ q_fl_X0_26) (fun _ h9 => h9) rfl (tyX0_ok 2 (by decide)) rfl rfl (Nat.le_of_ble_eq_true rfl) dX0_emptyBox_7 (fun H1 locs hU hS => ?_)
  have hX2 := hX.pm1 hA hi0 hU
  obtain ⟨g2, hg2⟩ : ∃ z, z = va_up g 1 (upd (g 1) i0 (nI 0)) := ⟨_, rfl⟩
  rw [← hg2] at hX2
  refine lv_iload_n hx hb dX0_emptyBox_10 rfl (lv_at hl 0 rfl) ?_
  have hpost := (show g 1 i0 = g 1 i0 ∧ xW D cA ad (va_up g 1 (upd (g 1) i0 (nI 0))) tt N H1 from ⟨rfl, by rw [← hg2]; exact hX2⟩)
  refine W.widen (k := 0) (n := 0) (by omega) (by omega) ?_
  exact W.iret (v := (g 1 i0)) hx hb hr (fun t ht _ => ⟨⟨(g 1 i0), H1, rfl, hpost, ht⟩, hS.F ht⟩) hS.2.2 dX0_emptyBox_11
set_option maxHeartbeats 4000000 in
set_option maxRecDepth 100000 in
/-- Machine.sellForADay() -/
theorem c_X0_sellForADay (l : Launch) (D : va_G) (cA : Nat → ClassId) (e0 : Nat) (A : Nat → Prop) (H0 : Heap) (ad : Nat → Nat → Nat) (g : Nat → Nat → Int32) (tt : Nat → Int64) (N : Nat → Nat) (hX : xW D cA ad g tt N H0) (hA : xA A e0 ad N) (i0 : Nat) (hi0 : i0 < N 0) (hI : slInv g (N 0)) : Met l yX0_sellForADay w_X0_sellForADay ({ frames := 1, cells := 0, slots := 0, locals := 23 } : Room) (xPc D cA e0 A H0 [.ref (ad 1 i0)]) (xQi (fun r h => xW D cA ad (so g (6 * i0) 6).1 tt N h ∧ r = nI (so g (6 * i0) 6).2) A) 0 0 (A) := by
  refine Met.ofW (cc := cX0_sellForADay) (maxL := 3) (ret := (some .int)) (by decide) rfl ?_
  intro p e s m args below meth c s₁ B hml hv
  obtain ⟨rfl, hH, hE⟩ := hv
  subst hH
  have hx := B.exec
  have hb := B.bytes
  have hr := B.returns
  have hts := hE.1.all ([.ref (ad 1 i0)] : List Value).toArray
  have hown : s.vm.findClass RX0 = some m.cls := findClass_of_methodNamed B.named
  have hlocks := B.notSynchronized
  have hK := hE.2.1
  have hS : va_S A s.heap s.heap [] := va_S.rf
  have hl := lv_entry ([.ref (ad 1 i0)]) (n := 3) (Nat.le_of_ble_eq_true rfl)
  rw [lg_entry_eq]
  generalize (lg_sl ([.ref (ad 1 i0)]) ++ List.replicate (3 - (lg_sl ([.ref (ad 1 i0)])).length) Slot.unset).toArray = ls at hl ⊢
  have hl : lv_has ls 3 [(0, .ref (ad 1 i0))] := hl
  have hn8 := hA.n8
  refine lv_iconst (v := nI 0) hx hb dX0_sellForADay_0 (by decide) ?_
  refine lv_istore_n (lv' := [(1, .int (nI 0)), (0, .ref (ad 1 i0))]) hx hb dX0_sellForADay_1 rfl hl (by decide) rfl (fun ls hl => ?_)
  refine lv_iconst (v := nI 0) hx hb dX0_sellForADay_2 (by decide) ?_
  refine lv_istore_n (lv' := [(2, .int (nI 0)), (1, .int (nI 0)), (0, .ref (ad 1 i0))]) hx hb dX0_sellForADay_3 rfl hl (by decide) rfl (fun ls hl => ?_)
  have LOOP4 : ∀ (n4 : Nat) (j : Nat) (cnt : Nat) (g1 : Nat → Nat → Int32) (H : Heap) (locs : List Loc) (ls : Array Slot), (j ≤ 6) → (xW D cA ad g1 tt N H) → (g1 = (so g (6 * i0) j).1) → (cnt = (so g (6 * i0) j).2) → va_S A s.heap H locs → (6 - j) < n4 → lv_has ls 3 [(2, .int (nI (j))), (1, .int (nI (cnt))), (0, .ref (ad 1 i0))] → W p l e (headSpec w_X0_sellForADay ({ frames := 1, cells := 0, slots := 0, locals := 23 } : Room)).room s m ([.ref (ad 1 i0)] : List Value).toArray below meth c H locs 0 0 (MQ below (xQi (fun r h => xW D cA ad (so g (6 * i0) 6).1 tt N h ∧ r = nI (so g (6 * i0) 6).2) A) ([.ref (ad 1 i0)] : List Value).toArray s 0 0 (A)) (F0 m 4 ls []) := by
    intro n4
    induction n4 with
    | zero => intro j cnt g1 H locs ls hj hX1 hg1 hcnt hS hmeas hl; exact absurd hmeas (Nat.not_lt_zero _)
    | succ n4 ih4 =>
      intro j cnt g1 H locs ls hj hX1 hg1 hcnt hS hmeas hl
      refine lv_iload_n hx hb dX0_sellForADay_4 rfl (lv_at hl 0 rfl) ?_
      refine lv_bipush (v := nI 6) hx hb dX0_sellForADay_5 (by decide) ?_
      refine lv_icmp_ge (tgt := 29) hx hb dX0_sellForADay_7 (by decide) (fun c7 => ?_) (fun c7 => ?_)
      · have c7 : 6 ≤ j := (nI_leI (a := 6) (b := j) (by omega) (by omega)).mp c7
        have hj9 : j = 6 := by omega
        subst hj9
        refine lv_iload_n hx hb dX0_sellForADay_29 rfl (lv_at hl 1 rfl) ?_
        have hpost := (show xW D cA ad (so g (6 * i0) 6).1 tt N H ∧ nI cnt = nI (so g (6 * i0) 6).2 from ⟨by rw [← hg1]; exact hX1, by rw [← hcnt]⟩)
        refine W.widen (k := 0) (n := 0) (by omega) (by omega) ?_
        exact W.iret (v := (nI (cnt))) hx hb hr (fun t ht _ => ⟨⟨(nI (cnt)), H, rfl, hpost, ht⟩, hS.F ht⟩) hS.2.2 dX0_sellForADay_30
      · have c7 : ¬ (6 ≤ j) := fun z => c7 ((nI_leI (a := 6) (b := j) (by omega) (by omega)).mpr z)
        have hj7 : j < 6 := by omega
        obtain ⟨c8, s8, d8, -, -, h78, -, -, hd8⟩ := hI (6 * i0 + j) (by omega)
        have h71 : g1 7 (6 * i0 + j) = nI d8 := by rw [hg1, so_t g (6 * i0) (by omega) (by omega) (by omega) (by omega) j, h78]
        refine lv_iload_n hx hb dX0_sellForADay_10 rfl (lv_at hl 1 rfl) ?_
        refine lv_aload_n hx hb dX0_sellForADay_11 rfl (lv_at hl 2 rfl) ?_
        refine lv_aload_n hx hb dX0_sellForADay_12 rfl (lv_at hl 2 rfl) ?_
        refine va_get (D := D) (ci := 1) (v := .ref (ad 2 i0)) (C := RX0) (T := TX0) (N := 4) hx hb hts qi_X0 hown hK (xP1 (hX1.mach hi0)) 0 rfl rfl 1 (by decide) (hts _ q_fl_X0_11) (fun _ h9 => h9) rfl dX0_sellForADay_13 ?_
        refine lv_iload_n hx hb dX0_sellForADay_16 rfl (lv_at hl 0 rfl) ?_
        refine va_aldq hx hb hK (xP1 (hX1.row hi0)) 0 3 rfl rfl (i := nI (j)) (vp_in_nI (n := j) (by omega) (by omega)) dX0_sellForADay_17 ?_
        refine xtopv (y := .ref (ad 3 (6 * i0 + j))) (by rw [nI_clamp (n := j) (by omega)] <;> rfl) ?_
        refine xci (va_runV (As := [.ref (ad 3 (6 * i0 + j))]) (rest := [.int (nI (cnt))]) ⟨hx, hb, hml, hown, hts⟩ (c_X0_sellFrom l D cA e0 A H ad g1 tt N hX1 hA i0 (6 * i0 + j) d8 hi0 (by omega) h71 hd8) ⟨(callB_of 1 hts gi_X0_sellFrom rfl rfl rfl (hts _ q_ini_X0) (hts _ q_ml_X0_39) hd_X0_sellFrom ⟨Nat.le_of_ble_eq_true rfl, Nat.le_of_ble_eq_true rfl⟩), hts _ q_im_X0_sellFrom, hts _ q_sel_X0_X0_sellFrom⟩ (xpV hE hS (hX1.mach hi0) rfl) rfl rfl hl.1 rfl (lv_room (Nat.le_of_ble_eq_true rfl)) dX0_sellForADay_18 ⟨Nat.le_of_ble_eq_true rfl, Nat.le_of_ble_eq_true rfl⟩) hS (fun q h => h) (fun r_1 H1 locs hP9 hz9 hk9 hS => ?_)
        obtain ⟨hX9, hr9⟩ := hP9
        rw [hr9]
        refine lv_iadd hx hb dX0_sellForADay_21 ?_
        refine xtop (show ((nI (cnt)) + (nI (cntF g1 i0 (6 * i0 + j)))) = nI (cnt + (cntF g1 i0 (6 * i0 + j))) from nI_add cnt (cntF g1 i0 (6 * i0 + j))) ?_
        refine lv_istore_n (lv' := [(1, .int (nI (cnt + (cntF g1 i0 (6 * i0 + j))))), (2, .int (nI (j))), (0, .ref (ad 1 i0))]) hx hb dX0_sellForADay_22 rfl hl (by decide) rfl (fun ls hl => ?_)
        refine lv_iinc (v := nI (j + 1)) (lv' := [(2, .int (nI (j + 1))), (1, .int (nI (cnt + (cntF g1 i0 (6 * i0 + j))))), (0, .ref (ad 1 i0))]) hx hb dX0_sellForADay_23 hl (k := 1) rfl (nI_add j 1) (by decide) rfl (fun ls hl => ?_)
        refine lv_goto (tgt := 4) hx hb dX0_sellForADay_26 (by decide) ?_
        exact ih4 (j + 1) (cnt + cntF g1 i0 (6 * i0 + j)) (sfF g1 i0 (6 * i0 + j)) H1 locs _ (by omega) hX9 (by rw [so_s g i0 hj7, ← hg1]) (by rw [so_s g i0 hj7, ← hg1, ← hcnt]) hS (by omega) (lv_sub hl [0, 1, 2] rfl)
  exact LOOP4 _ 0 0 g s.heap [] _ (by omega) hX rfl rfl hS (Nat.lt_succ_self _) (lv_sub hl [0, 1, 2] rfl)
set_option maxHeartbeats 4000000 in
set_option maxRecDepth 100000 in
/-- sellEverywhere() -/
theorem c_X4_sellEverywhere (l : Launch) (D : va_G) (cA : Nat → ClassId) (e0 : Nat) (A : Nat → Prop) (H0 : Heap) (ad : Nat → Nat → Nat) (g : Nat → Nat → Int32) (tt : Nat → Int64) (N : Nat → Nat) (hX : xW D cA ad g tt N H0) (hA : xA A e0 ad N) (hI : slInv g (N 0)) : Met l yX4_sellEverywhere w_X4_sellEverywhere ({ frames := 3, cells := 0, slots := 0, locals := 64 } : Room) (xPc D cA e0 A H0 [.ref (ad 0 0)]) (xQi (fun r h => xW D cA ad (so g 0 (6 * N 0)).1 tt N h ∧ r = nI (so g 0 (6 * N 0)).2) A) 0 0 (A) := by
  refine Met.ofW (cc := cX4_sellEverywhere) (maxL := 3) (ret := (some .int)) (by decide) rfl ?_
  intro p e s m args below meth c s₁ B hml hv
  obtain ⟨rfl, hH, hE⟩ := hv
  subst hH
  have hx := B.exec
  have hb := B.bytes
  have hr := B.returns
  have hts := hE.1.all ([.ref (ad 0 0)] : List Value).toArray
  have hown : s.vm.findClass RX4 = some m.cls := findClass_of_methodNamed B.named
  have hlocks := B.notSynchronized
  have hK := hE.2.1
  have hS : va_S A s.heap s.heap [] := va_S.rf
  have hl := lv_entry ([.ref (ad 0 0)]) (n := 3) (Nat.le_of_ble_eq_true rfl)
  rw [lg_entry_eq]
  generalize (lg_sl ([.ref (ad 0 0)]) ++ List.replicate (3 - (lg_sl ([.ref (ad 0 0)])).length) Slot.unset).toArray = ls at hl ⊢
  have hl : lv_has ls 3 [(0, .ref (ad 0 0))] := hl
  have hn8 := hA.n8
  refine lv_iconst (v := nI 0) hx hb dX4_sellEverywhere_0 (by decide) ?_
  refine lv_istore_n (lv' := [(1, .int (nI 0)), (0, .ref (ad 0 0))]) hx hb dX4_sellEverywhere_1 rfl hl (by decide) rfl (fun ls hl => ?_)
  refine lv_iconst (v := nI 0) hx hb dX4_sellEverywhere_2 (by decide) ?_
  refine lv_istore_n (lv' := [(2, .int (nI 0)), (1, .int (nI 0)), (0, .ref (ad 0 0))]) hx hb dX4_sellEverywhere_3 rfl hl (by decide) rfl (fun ls hl => ?_)
  have LOOP4 : ∀ (n4 : Nat) (i : Nat) (cnt : Nat) (g1 : Nat → Nat → Int32) (H : Heap) (locs : List Loc) (ls : Array Slot), (i ≤ N 0) → (xW D cA ad g1 tt N H) → (g1 = (so g 0 (6 * i)).1) → (cnt = (so g 0 (6 * i)).2) → va_S A s.heap H locs → (N 0 - i) < n4 → lv_has ls 3 [(2, .int (nI (i))), (1, .int (nI (cnt))), (0, .ref (ad 0 0))] → W p l e (headSpec w_X4_sellEverywhere ({ frames := 3, cells := 0, slots := 0, locals := 64 } : Room)).room s m ([.ref (ad 0 0)] : List Value).toArray below meth c H locs 0 0 (MQ below (xQi (fun r h => xW D cA ad (so g 0 (6 * N 0)).1 tt N h ∧ r = nI (so g 0 (6 * N 0)).2) A) ([.ref (ad 0 0)] : List Value).toArray s 0 0 (A)) (F0 m 4 ls []) := by
    intro n4
    induction n4 with
    | zero => intro i cnt g1 H locs ls hi hX1 hg1 hcnt hS hmeas hl; exact absurd hmeas (Nat.not_lt_zero _)
    | succ n4 ih4 =>
      intro i cnt g1 H locs ls hi hX1 hg1 hcnt hS hmeas hl
      refine lv_iload_n hx hb dX4_sellEverywhere_4 rfl (lv_at hl 0 rfl) ?_
      refine lv_aload_n hx hb dX4_sellEverywhere_5 rfl (lv_at hl 2 rfl) ?_
      refine va_get (D := D) (ci := 5) (v := .ref (ad 0 1)) (C := RX4) (T := TX4) (N := 11) hx hb hts qi_X4 hown hK (xP1 (hX1.main)) 0 rfl rfl 0 (by decide) (hts _ q_fl_X4_10) (fun _ h9 => h9) rfl dX4_sellEverywhere_6 ?_
      refine xcRi (va_runV (As := []) (rest := [.int (nI (i))]) ⟨hx, hb, hml, hown, hts⟩ (c_Jx4a65c_size_8abf5 l D cA e0 A H (ad 0 1) (g1 18 0) (ad 0 9) (nI (N 0)) (hX1.ml)) ⟨(callB_of 0 hts gi_Jx4a65c_size_8abf5 rfl rfl rfl (hts _ q_ini_Jx4a65c) (hts _ q_ml_X4_48) hd_Jx4a65c_size_8abf5 ⟨Nat.le_of_ble_eq_true rfl, Nat.le_of_ble_eq_true rfl⟩), hts _ q_im_Jx4a65c_size_8abf5, hts _ q_sel_Jx4a65c_Jx4a65c_size_8abf5⟩ (xpV hE hS (hX1.ml) rfl) rfl rfl hl.1 rfl (lv_room (Nat.le_of_ble_eq_true rfl)) dX4_sellEverywhere_9 ⟨Nat.le_of_ble_eq_true rfl, Nat.le_of_ble_eq_true rfl⟩) ?_
      refine lv_icmp_ge (tgt := 38) hx hb dX4_sellEverywhere_12 (by decide) (fun c12 => ?_) (fun c12 => ?_)
      · have c12 : (N 0) ≤ i := (nI_leI (a := N 0) (b := i) (by omega) (by omega)).mp c12
        have hiN : i = N 0 := by omega
        refine lv_iload_n hx hb dX4_sellEverywhere_38 rfl (lv_at hl 1 rfl) ?_
        have hpost := (show xW D cA ad (so g 0 (6 * N 0)).1 tt N H ∧ nI cnt = nI (so g 0 (6 * N 0)).2 from ⟨by rw [← hiN, ← hg1]; exact hX1, by rw [← hiN, ← hcnt]⟩)
        refine W.widen (k := 0) (n := 0) (by omega) (by omega) ?_
        exact W.iret (v := (nI (cnt))) hx hb hr (fun t ht _ => ⟨⟨(nI (cnt)), H, rfl, hpost, ht⟩, hS.F ht⟩) hS.2.2 dX4_sellEverywhere_39
      · have c12 : ¬ ((N 0) ≤ i) := fun z => c12 ((nI_leI (a := N 0) (b := i) (by omega) (by omega)).mpr z)
        have c12 : i < N 0 := by omega
        have hI1 : slInv g1 (N 0) := by rw [hg1]; exact so_iv hI 0 (6 * i) (by omega)
        refine lv_iload_n hx hb dX4_sellEverywhere_15 rfl (lv_at hl 1 rfl) ?_
        refine lv_aload_n hx hb dX4_sellEverywhere_16 rfl (lv_at hl 2 rfl) ?_
        refine va_get (D := D) (ci := 5) (v := .ref (ad 0 1)) (C := RX4) (T := TX4) (N := 11) hx hb hts qi_X4 hown hK (xP1 (hX1.main)) 0 rfl rfl 0 (by decide) (hts _ q_fl_X4_10) (fun _ h9 => h9) rfl dX4_sellEverywhere_17 ?_
        refine lv_iload_n hx hb dX4_sellEverywhere_20 rfl (lv_at hl 0 rfl) ?_
        refine xcRr (va_runV (As := [.int (nI (i))]) (rest := [.int (nI (cnt))]) ⟨hx, hb, hml, hown, hts⟩ (c_Jx4a65c_get_915e3 l D cA e0 A H (ad 0 1) (g1 18 0) (ad 0 9) (N 0) (hX1.ml) (N 2) (fun j => if j < N 0 then some (ad 1 j) else none) (hX1.md (by have := hA.2.2.2.2.2.1; omega)) i (ad 1 i) c12 hA.2.2.2.2.2.1 (by have := hA.2.2.2.2.2.2.1; omega) (if_pos c12)) ⟨(callB_of 1 hts gi_Jx4a65c_get_915e3 rfl rfl rfl (hts _ q_ini_Jx4a65c) (hts _ q_ml_X4_199) hd_Jx4a65c_get_915e3 ⟨Nat.le_of_ble_eq_true rfl, Nat.le_of_ble_eq_true rfl⟩), hts _ q_im_Jx4a65c_get_915e3, hts _ q_sel_Jx4a65c_Jx4a65c_get_915e3⟩ (xpV hE hS (hX1.ml) rfl) rfl rfl hl.1 rfl (lv_room (Nat.le_of_ble_eq_true rfl)) dX4_sellEverywhere_21 ⟨Nat.le_of_ble_eq_true rfl, Nat.le_of_ble_eq_true rfl⟩) ?_
        refine va_castS hx hb hown (hts _ q_cl_X4_57) (hK.1 1 _ rfl).2 (va_recv hK (xP1 (hX1.mach c12)) (ci := 1) (q0 := 0) rfl rfl) dX4_sellEverywhere_24 ?_
        refine xci (va_runV (As := []) (rest := [.int (nI (cnt))]) ⟨hx, hb, hml, hown, hts⟩ (c_X0_sellForADay l D cA e0 A H ad g1 tt N hX1 hA i c12 hI1) ⟨(callB_of 0 hts gi_X0_sellForADay rfl rfl rfl (hts _ q_ini_X0) (hts _ q_ml_X4_241) hd_X0_sellForADay ⟨Nat.le_of_ble_eq_true rfl, Nat.le_of_ble_eq_true rfl⟩), hts _ q_im_X0_sellForADay, hts _ q_sel_X0_X0_sellForADay⟩ (xpV hE hS (hX1.mach c12) rfl) rfl rfl hl.1 rfl (lv_room (Nat.le_of_ble_eq_true rfl)) dX4_sellEverywhere_27 ⟨Nat.le_of_ble_eq_true rfl, Nat.le_of_ble_eq_true rfl⟩) hS (fun q h => h) (fun r_1 H1 locs hP9 hz9 hk9 hS => ?_)
        obtain ⟨hX9, hr9⟩ := hP9
        rw [hr9]
        refine lv_iadd hx hb dX4_sellEverywhere_30 ?_
        refine xtop (show ((nI (cnt)) + (nI ((so g1 (6 * i) 6).2))) = nI (cnt + ((so g1 (6 * i) 6).2)) from nI_add cnt ((so g1 (6 * i) 6).2)) ?_
        refine lv_istore_n (lv' := [(1, .int (nI (cnt + ((so g1 (6 * i) 6).2)))), (2, .int (nI (i))), (0, .ref (ad 0 0))]) hx hb dX4_sellEverywhere_31 rfl hl (by decide) rfl (fun ls hl => ?_)
        refine lv_iinc (v := nI (i + 1)) (lv' := [(2, .int (nI (i + 1))), (1, .int (nI (cnt + ((so g1 (6 * i) 6).2)))), (0, .ref (ad 0 0))]) hx hb dX4_sellEverywhere_32 hl (k := 1) rfl (nI_add i 1) (by decide) rfl (fun ls hl => ?_)
        refine lv_goto (tgt := 4) hx hb dX4_sellEverywhere_35 (by decide) ?_
        exact ih4 (i + 1) (cnt + (so g1 (6 * i) 6).2) (so g1 (6 * i) 6).1 H1 locs _ (by omega) hX9 (by rw [so_m g i, ← hg1]) (by rw [so_m g i, ← hg1, ← hcnt]) hS (by omega) (lv_sub hl [0, 1, 2] rfl)
  exact LOOP4 _ 0 0 g s.heap [] _ (by omega) hX rfl rfl hS (Nat.lt_succ_self _) (lv_sub hl [0, 1, 2] rfl)
set_option maxHeartbeats 4000000 in
set_option maxRecDepth 100000 in
/-- Machine.fillUp(L) -/
theorem c_X0_fillUp (l : Launch) (D : va_G) (cA : Nat → ClassId) (e0 : Nat) (A : Nat → Prop) (H0 : Heap) (ad : Nat → Nat → Nat) (g : Nat → Nat → Int32) (tt : Nat → Int64) (N : Nat → Nat) (hX : xW D cA ad g tt N H0) (hA : xA A e0 ad N) (i0 : Nat) (hi0 : i0 < N 0) (L : Nat) (hL : L ≤ 2000) (hI : slInv g (N 0)) : Met l yX0_fillUp w_X0_fillUp ({ frames := 1, cells := 0, slots := 0, locals := 21 } : Room) (xPc D cA e0 A H0 [.ref (ad 1 i0), .int (nI (L))]) (xQi (fun r h => xW D cA ad (fu g i0 L 6).1 tt N h ∧ r = nI (L - (fu g i0 L 6).2)) A) 0 0 (A) := by
  refine Met.ofW (cc := cX0_fillUp) (maxL := 5) (ret := (some .int)) (by decide) rfl ?_
  intro p e s m args below meth c s₁ B hml hv
  obtain ⟨rfl, hH, hE⟩ := hv
  subst hH
  have hx := B.exec
  have hb := B.bytes
  have hr := B.returns
  have hts := hE.1.all ([.ref (ad 1 i0), .int (nI (L))] : List Value).toArray
  have hown : s.vm.findClass RX0 = some m.cls := findClass_of_methodNamed B.named
  have hlocks := B.notSynchronized
  have hK := hE.2.1
  have hS : va_S A s.heap s.heap [] := va_S.rf
  have hl := lv_entry ([.ref (ad 1 i0), .int (nI (L))]) (n := 5) (Nat.le_of_ble_eq_true rfl)
  rw [lg_entry_eq]
  generalize (lg_sl ([.ref (ad 1 i0), .int (nI (L))]) ++ List.replicate (5 - (lg_sl ([.ref (ad 1 i0), .int (nI (L))])).length) Slot.unset).toArray = ls at hl ⊢
  have hl : lv_has ls 5 [(0, .ref (ad 1 i0)), (1, .int (nI (L)))] := hl
  have hn8 := hA.n8
  refine lv_iload_n hx hb dX0_fillUp_0 rfl (lv_at hl 1 rfl) ?_
  refine lv_istore_n (lv' := [(2, .int (nI (L))), (0, .ref (ad 1 i0)), (1, .int (nI (L)))]) hx hb dX0_fillUp_1 rfl hl (by decide) rfl (fun ls hl => ?_)
  refine lv_iconst (v := nI 0) hx hb dX0_fillUp_2 (by decide) ?_
  refine lv_istore_n (lv' := [(3, .int (nI 0)), (2, .int (nI (L))), (0, .ref (ad 1 i0)), (1, .int (nI (L)))]) hx hb dX0_fillUp_3 rfl hl (by decide) rfl (fun ls hl => ?_)
  have LOOP4 : ∀ (n4 : Nat) (j : Nat) (lf : Nat) (g1 : Nat → Nat → Int32) (H : Heap) (locs : List Loc) (ls : Array Slot), (j ≤ 6) → (xW D cA ad g1 tt N H) → (g1 = (fu g i0 L j).1) → (lf = (fu g i0 L j).2) → va_S A s.heap H locs → (6 - j) < n4 → lv_has ls 5 [(3, .int (nI (j))), (2, .int (nI (lf))), (0, .ref (ad 1 i0)), (1, .int (nI (L)))] → W p l e (headSpec w_X0_fillUp ({ frames := 1, cells := 0, slots := 0, locals := 21 } : Room)).room s m ([.ref (ad 1 i0), .int (nI (L))] : List Value).toArray below meth c H locs 0 0 (MQ below (xQi (fun r h => xW D cA ad (fu g i0 L 6).1 tt N h ∧ r = nI (L - (fu g i0 L 6).2)) A) ([.ref (ad 1 i0), .int (nI (L))] : List Value).toArray s 0 0 (A)) (F0 m 4 ls []) := by
    intro n4
    induction n4 with
    | zero => intro j lf g1 H locs ls hj hX1 hg1 hlf hS hmeas hl; exact absurd hmeas (Nat.not_lt_zero _)
    | succ n4 ih4 =>
      intro j lf g1 H locs ls hj hX1 hg1 hlf hS hmeas hl
      refine lv_iload_n hx hb dX0_fillUp_4 rfl (lv_at hl 0 rfl) ?_
      refine lv_bipush (v := nI 6) hx hb dX0_fillUp_5 (by decide) ?_
      refine lv_icmp_ge (tgt := 52) hx hb dX0_fillUp_7 (by decide) (fun c7 => ?_) (fun c7 => ?_)
      · have c7 : 6 ≤ j := (nI_leI (a := 6) (b := j) (by omega) (by omega)).mp c7
        have hj9 : j = 6 := by omega
        subst hj9
        have hle := fu_le g i0 L 6
        refine lv_iload_n hx hb dX0_fillUp_52 rfl (lv_at hl 3 rfl) ?_
        refine lv_iload_n hx hb dX0_fillUp_53 rfl (lv_at hl 1 rfl) ?_
        refine lv_isub hx hb dX0_fillUp_54 ?_
        refine xtop (show ((nI (L)) - (nI (lf))) = nI (L - lf) from pk_sub (by rw [hlf]; exact hle)) ?_
        have hpost := (show xW D cA ad (fu g i0 L 6).1 tt N H ∧ nI (L - lf) = nI (L - (fu g i0 L 6).2) from ⟨by rw [← hg1]; exact hX1, by rw [← hlf]⟩)
        refine W.widen (k := 0) (n := 0) (by omega) (by omega) ?_
        exact W.iret (v := (nI (L - lf))) hx hb hr (fun t ht _ => ⟨⟨(nI (L - lf)), H, rfl, hpost, ht⟩, hS.F ht⟩) hS.2.2 dX0_fillUp_55
      · have c7 : ¬ (6 ≤ j) := fun z => c7 ((nI_leI (a := 6) (b := j) (by omega) (by omega)).mpr z)
        have hj7 : j < 6 := by omega
        have hle := fu_le g i0 L j
        have hlk := lk_eq (g := g1) (k := 6 * i0 + j) (by rw [hg1]; exact fu_inv hI hi0 j (by omega)) (by omega)
        have hlk2 := hlk.2
        refine lv_iload_n hx hb dX0_fillUp_10 rfl (lv_at hl 1 rfl) ?_
        refine lv_aload_n hx hb dX0_fillUp_11 rfl (lv_at hl 2 rfl) ?_
        refine va_get (D := D) (ci := 1) (v := .ref (ad 2 i0)) (C := RX0) (T := TX0) (N := 4) hx hb hts qi_X0 hown hK (xP1 (hX1.mach hi0)) 0 rfl rfl 1 (by decide) (hts _ q_fl_X0_11) (fun _ h9 => h9) rfl dX0_fillUp_12 ?_
        refine lv_iload_n hx hb dX0_fillUp_15 rfl (lv_at hl 0 rfl) ?_
        refine va_aldq hx hb hK (xP1 (hX1.row hi0)) 0 3 rfl rfl (i := nI (j)) (vp_in_nI (n := j) (by omega) (by omega)) dX0_fillUp_16 ?_
        refine xtopv (y := .ref (ad 3 (6 * i0 + j))) (by rw [nI_clamp (n := j) (by omega)] <;> rfl) ?_
        refine xcRi (va_runV (As := []) (rest := [.int (nI (lf))]) ⟨hx, hb, hml, hown, hts⟩ (c_X3_lacking l D cA e0 A H ad g1 tt N hX1 (6 * i0 + j) (by omega)) ⟨(callB_of 0 hts gi_X3_lacking rfl rfl rfl (hts _ q_ini_X3) (hts _ q_ml_X0_22) hd_X3_lacking ⟨Nat.le_of_ble_eq_true rfl, Nat.le_of_ble_eq_true rfl⟩), hts _ q_im_X3_lacking, hts _ q_sel_X3_X3_lacking⟩ (xpV hE hS (hX1.slot (k := 6 * i0 + j) (by omega)) rfl) rfl rfl hl.1 rfl (lv_room (Nat.le_of_ble_eq_true rfl)) dX0_fillUp_17 ⟨Nat.le_of_ble_eq_true rfl, Nat.le_of_ble_eq_true rfl⟩) ?_
        refine xtop (show (g1 4 (6 * i0 + j) - g1 5 (6 * i0 + j)) = nI (lkN g1 (6 * i0 + j)) from hlk.1) ?_
        refine va_mmin hx hb (hml.trans hl.1.symm) hown (hts _ q_ml_X0_55) (hts _ q_st_J9_min_7cf53) (hts _ q_ini_J9) (hts _ q_co_min) (Nat.le_of_ble_eq_true rfl) (Nat.le_of_ble_eq_true rfl) (Nat.le_of_ble_eq_true rfl) (Nat.le_of_ble_eq_true rfl) dX0_fillUp_20 ?_
        refine xtop (show (if nI (lkN g1 (6 * i0 + j)) < nI (lf) then nI (lkN g1 (6 * i0 + j)) else nI (lf)) = nI (min lf (lkN g1 (6 * i0 + j))) from mn_nI (by omega) (by omega)) ?_
        refine lv_istore (lv' := [(4, .int (nI (min lf (lkN g1 (6 * i0 + j))))), (3, .int (nI (j))), (2, .int (nI (lf))), (0, .ref (ad 1 i0)), (1, .int (nI (L)))]) hx hb dX0_fillUp_23 hl (by decide) rfl (fun ls hl => ?_)
        refine lv_aload_n hx hb dX0_fillUp_25 rfl (lv_at hl 3 rfl) ?_
        refine va_get (D := D) (ci := 1) (v := .ref (ad 2 i0)) (C := RX0) (T := TX0) (N := 4) hx hb hts qi_X0 hown hK (xP1 (hX1.mach hi0)) 0 rfl rfl 1 (by decide) (hts _ q_fl_X0_11) (fun _ h9 => h9) rfl dX0_fillUp_26 ?_
        refine lv_iload_n hx hb dX0_fillUp_29 rfl (lv_at hl 1 rfl) ?_
        refine va_aldq hx hb hK (xP1 (hX1.row hi0)) 0 3 rfl rfl (i := nI (j)) (vp_in_nI (n := j) (by omega) (by omega)) dX0_fillUp_30 ?_
        refine xtopv (y := .ref (ad 3 (6 * i0 + j))) (by rw [nI_clamp (n := j) (by omega)] <;> rfl) ?_
        refine lv_dup hx hb dX0_fillUp_31 rfl ?_
        refine va_get (D := D) (ci := 4) (v := .int (g1 5 (6 * i0 + j))) (C := RX3) (T := TX3) (N := 6) hx hb hts qi_X3 hown hK (xP1 (hX1.slot (k := 6 * i0 + j) (by omega))) 0 rfl rfl 1 (by decide) (hts _ q_fl_X0_46) (fun _ h9 => h9) rfl dX0_fillUp_32 ?_
        refine lv_iload hx hb dX0_fillUp_35 (lv_at hl 0 rfl) ?_
        refine lv_iadd hx hb dX0_fillUp_37 ?_
        refine xput (D := D) (ci := 4) (v := .int ((g1 5 (6 * i0 + j)) + (nI (min lf (lkN g1 (6 * i0 + j)))))) (C := RX3) (T := TX3) (N := 6) hx hb hts qi_X3 tyX3 tyX3_ok nmX3 hown hK hS (hX1.slot (k := 6 * i0 + j) (by omega)) (hA.a (xV3 (j := 6 * i0 + j) (by omega))) rfl 1 (by decide) (hts _ q_fl_X0_46) (fun _ h9 => h9) rfl (tyX3_ok 1 (by decide)) rfl rfl (Nat.le_of_ble_eq_true rfl) dX0_fillUp_38 (fun H1 locs hU hS => ?_)
        have hX2 := hX1.ps5 hA (show 6 * i0 + j < 6 * N 0 by omega) hU
        obtain ⟨g2, hg2⟩ : ∃ z, z = va_up g1 5 (upd (g1 5) (6 * i0 + j) ((g1 5 (6 * i0 + j)) + (nI (min lf (lkN g1 (6 * i0 + j)))))) := ⟨_, rfl⟩
        rw [← hg2] at hX2
        refine lv_iload_n hx hb dX0_fillUp_41 rfl (lv_at hl 2 rfl) ?_
        refine lv_iload hx hb dX0_fillUp_42 (lv_at hl 0 rfl) ?_
        refine lv_isub hx hb dX0_fillUp_44 ?_
        refine xtop (show ((nI (lf)) - (nI (min lf (lkN g1 (6 * i0 + j))))) = nI (lf - min lf (lkN g1 (6 * i0 + j))) from pk_sub mn_le) ?_
        refine lv_istore_n (lv' := [(2, .int (nI (lf - min lf (lkN g1 (6 * i0 + j))))), (4, .int (nI (min lf (lkN g1 (6 * i0 + j))))), (3, .int (nI (j))), (0, .ref (ad 1 i0)), (1, .int (nI (L)))]) hx hb dX0_fillUp_45 rfl hl (by decide) rfl (fun ls hl => ?_)
        refine lv_iinc (v := nI (j + 1)) (lv' := [(3, .int (nI (j + 1))), (2, .int (nI (lf - min lf (lkN g1 (6 * i0 + j))))), (4, .int (nI (min lf (lkN g1 (6 * i0 + j))))), (0, .ref (ad 1 i0)), (1, .int (nI (L)))]) hx hb dX0_fillUp_46 hl (k := 2) rfl (nI_add j 1) (by decide) rfl (fun ls hl => ?_)
        refine lv_goto (tgt := 4) hx hb dX0_fillUp_49 (by decide) ?_
        exact ih4 (j + 1) (lf - min lf (lkN g1 (6 * i0 + j))) g2 H1 locs _ (by omega) hX2 (by rw [hg2, hlf, hg1]; rfl) (by rw [hlf, hg1]; rfl) hS (by omega) (lv_sub hl [0, 1, 3, 4] rfl)
  exact LOOP4 _ 0 L g s.heap [] _ (by omega) hX rfl rfl hS (Nat.lt_succ_self _) (lv_sub hl [0, 1, 2, 3] rfl)
set_option maxHeartbeats 4000000 in
set_option maxRecDepth 100000 in
/-- serve(m, L) -/
theorem c_X4_serve (l : Launch) (D : va_G) (cA : Nat → ClassId) (e0 : Nat) (A : Nat → Prop) (H0 : Heap) (ad : Nat → Nat → Nat) (g : Nat → Nat → Int32) (tt : Nat → Int64) (N : Nat → Nat) (hX : xW D cA ad g tt N H0) (hA : xA A e0 ad N) (i0 : Nat) (hi0 : i0 < N 0) (L : Nat) (hL : L ≤ 2000) (hI : slInv g (N 0)) : Met l yX4_serve w_X4_serve ({ frames := 2, cells := 0, slots := 0, locals := 45 } : Room) (xPc D cA e0 A H0 [.ref (ad 0 0), .ref (ad 1 i0), .int (nI (L))]) (xQi (fun r h => xW D cA ad (svF g tt i0 L).1 (svF g tt i0 L).2.1 N h ∧ r = nI (L - (svF g tt i0 L).2.2)) A) 0 0 (A) := by
  refine Met.ofW (cc := cX4_serve) (maxL := 4) (ret := (some .int)) (by decide) rfl ?_
  intro p e s m args below meth c s₁ B hml hv
  obtain ⟨rfl, hH, hE⟩ := hv
  subst hH
  have hx := B.exec
  have hb := B.bytes
  have hr := B.returns
  have hts := hE.1.all ([.ref (ad 0 0), .ref (ad 1 i0), .int (nI (L))] : List Value).toArray
  have hown : s.vm.findClass RX4 = some m.cls := findClass_of_methodNamed B.named
  have hlocks := B.notSynchronized
  have hK := hE.2.1
  have hS : va_S A s.heap s.heap [] := va_S.rf
  have hl := lv_entry ([.ref (ad 0 0), .ref (ad 1 i0), .int (nI (L))]) (n := 4) (Nat.le_of_ble_eq_true rfl)
  rw [lg_entry_eq]
  generalize (lg_sl ([.ref (ad 0 0), .ref (ad 1 i0), .int (nI (L))]) ++ List.replicate (4 - (lg_sl ([.ref (ad 0 0), .ref (ad 1 i0), .int (nI (L))])).length) Slot.unset).toArray = ls at hl ⊢
  have hl : lv_has ls 4 [(0, .ref (ad 0 0)), (1, .ref (ad 1 i0)), (2, .int (nI (L)))] := hl
  have hn8 := hA.n8
  refine lv_aload_n hx hb dX4_serve_0 rfl (lv_at hl 0 rfl) ?_
  refine lv_dup hx hb dX4_serve_1 rfl ?_
  refine va_get (D := D) (ci := 5) (v := .long (tt 0)) (C := RX4) (T := TX4) (N := 11) hx hb hts qi_X4 hown hK (xP1 (hX.main)) 0 rfl rfl 7 (by decide) (hts _ q_fl_X4_209) (fun _ h9 => h9) rfl dX4_serve_2 ?_
  refine lv_aload_n hx hb dX4_serve_5 rfl (lv_at hl 1 rfl) ?_
  refine xci (va_runV (As := []) (rest := [.long (tt 0), .ref (ad 0 0)]) ⟨hx, hb, hml, hown, hts⟩ (c_X0_emptyBox l D cA e0 A s.heap ad g tt N hX hA i0 hi0) ⟨(callB_of 0 hts gi_X0_emptyBox rfl rfl rfl (hts _ q_ini_X0) (hts _ q_ml_X4_262) hd_X0_emptyBox ⟨Nat.le_of_ble_eq_true rfl, Nat.le_of_ble_eq_true rfl⟩), hts _ q_im_X0_emptyBox, hts _ q_sel_X0_X0_emptyBox⟩ (xpV hE hS (hX.mach hi0) rfl) rfl rfl hl.1 rfl (lv_room (Nat.le_of_ble_eq_true rfl)) dX4_serve_6 ⟨Nat.le_of_ble_eq_true rfl, Nat.le_of_ble_eq_true rfl⟩) hS (fun q h => h) (fun r_1 H1 locs hP9 hz9 hk9 hS => ?_)
  obtain ⟨hr9, hX9⟩ := hP9
  rw [hr9]
  obtain ⟨g9, hg9⟩ : ∃ z, z = va_up g 1 (upd (g 1) i0 (nI 0)) := ⟨_, rfl⟩
  rw [← hg9] at hX9
  refine lv_i2l (v := (g 1 i0).toInt64) hx hb dX4_serve_9 rfl ?_
  refine lv_ladd hx hb dX4_serve_10 ?_
  refine xput (D := D) (ci := 5) (v := .long ((tt 0) + ((g 1 i0).toInt64))) (C := RX4) (T := TX4) (N := 11) hx hb hts qi_X4 tyX4 tyX4_ok nmX4 hown hK hS (hX9.main) (hA.a (xV0 (by omega))) rfl 7 (by decide) (hts _ q_fl_X4_209) (fun _ h9 => h9) rfl (tyX4_ok 7 (by decide)) rfl rfl (Nat.le_of_ble_eq_true rfl) dX4_serve_11 (fun H3 locs hU hS => ?_)
  have hX4 := hX9.ptt (tt' := vp_updL tt 0 ((tt 0) + ((g 1 i0).toInt64))) hA hU
  obtain ⟨t4, ht4⟩ : ∃ z, z = vp_updL tt 0 ((tt 0) + ((g 1 i0).toInt64)) := ⟨_, rfl⟩
  rw [← ht4] at hX4
  refine lv_aload_n hx hb dX4_serve_14 rfl (lv_at hl 1 rfl) ?_
  refine lv_dup hx hb dX4_serve_15 rfl ?_
  refine va_get (D := D) (ci := 1) (v := .int (g9 2 i0)) (C := RX0) (T := TX0) (N := 4) hx hb hts qi_X0 hown hK (xP1 (hX4.mach hi0)) 0 rfl rfl 3 (by decide) (hts _ q_fl_X4_265) (fun _ h9 => h9) rfl dX4_serve_16 ?_
  refine lv_iconst (v := nI 1) hx hb dX4_serve_19 (by decide) ?_
  refine lv_iadd hx hb dX4_serve_20 ?_
  refine xput (D := D) (ci := 1) (v := .int ((g9 2 i0) + (nI 1))) (C := RX0) (T := TX0) (N := 4) hx hb hts qi_X0 tyX0 tyX0_ok nmX0 hown hK hS (hX4.mach hi0) (hA.a (xV1 hi0)) rfl 3 (by decide) (hts _ q_fl_X4_265) (fun _ h9 => h9) rfl (tyX0_ok 3 (by decide)) rfl rfl (Nat.le_of_ble_eq_true rfl) dX4_serve_21 (fun H5 locs hU hS => ?_)
  have hX6 := hX4.pm2 hA hi0 hU
  obtain ⟨g6, hg6⟩ : ∃ z, z = va_up g9 2 (upd (g9 2) i0 ((g9 2 i0) + (nI 1))) := ⟨_, rfl⟩
  rw [← hg6] at hX6
  refine lv_aload_n hx hb dX4_serve_24 rfl (lv_at hl 1 rfl) ?_
  refine lv_iload_n hx hb dX4_serve_25 rfl (lv_at hl 2 rfl) ?_
  have hIs : slInv g6 (N 0) := by
    have z : g6 = svG g i0 := by rw [hg6, hg9]; rfl
    rw [z]
    exact inv_c hI (svG_t g i0 (by omega) (by omega)) (svG_t g i0 (by omega) (by omega)) (svG_t g i0 (by omega) (by omega))
  refine xci (va_runV (As := [.int (nI (L))]) (rest := []) ⟨hx, hb, hml, hown, hts⟩ (c_X0_fillUp l D cA e0 A H5 ad g6 t4 N hX6 hA i0 hi0 L hL hIs) ⟨(callB_of 1 hts gi_X0_fillUp rfl rfl rfl (hts _ q_ini_X0) (hts _ q_ml_X4_268) hd_X0_fillUp ⟨Nat.le_of_ble_eq_true rfl, Nat.le_of_ble_eq_true rfl⟩), hts _ q_im_X0_fillUp, hts _ q_sel_X0_X0_fillUp⟩ (xpV hE hS (hX6.mach hi0) rfl) rfl rfl hl.1 rfl (lv_room (Nat.le_of_ble_eq_true rfl)) dX4_serve_26 ⟨Nat.le_of_ble_eq_true rfl, Nat.le_of_ble_eq_true rfl⟩) hS (fun q h => h) (fun r_7 H7 locs hP9 hz9 hk9 hS => ?_)
  obtain ⟨hXf, hrf⟩ := hP9
  rw [hrf]
  have hgs : g6 = svG g i0 := by rw [hg6, hg9]; rfl
  rw [hgs] at hXf
  rw [hgs]
  obtain ⟨gf, hgf⟩ : ∃ z, z = (fu (svG g i0) i0 L 6).1 := ⟨_, rfl⟩
  rw [← hgf] at hXf
  refine lv_istore_n (lv' := [(3, .int (nI (L - (fu (svG g i0) i0 L 6).2))), (0, .ref (ad 0 0)), (1, .ref (ad 1 i0)), (2, .int (nI (L)))]) hx hb dX4_serve_29 rfl hl (by decide) rfl (fun ls hl => ?_)
  refine lv_aload_n hx hb dX4_serve_30 rfl (lv_at hl 1 rfl) ?_
  refine lv_dup hx hb dX4_serve_31 rfl ?_
  refine va_get (D := D) (ci := 5) (v := .long (t4 2)) (C := RX4) (T := TX4) (N := 11) hx hb hts qi_X4 hown hK (xP1 (hXf.main)) 0 rfl rfl 9 (by decide) (hts _ q_fl_X4_212) (fun _ h9 => h9) rfl dX4_serve_32 ?_
  refine lv_iload_n hx hb dX4_serve_35 rfl (lv_at hl 0 rfl) ?_
  refine lv_i2l (v := (nI (L - (fu (svG g i0) i0 L 6).2)).toInt64) hx hb dX4_serve_36 rfl ?_
  refine lv_ladd hx hb dX4_serve_37 ?_
  refine xput (D := D) (ci := 5) (v := .long ((t4 2) + ((nI (L - (fu (svG g i0) i0 L 6).2)).toInt64))) (C := RX4) (T := TX4) (N := 11) hx hb hts qi_X4 tyX4 tyX4_ok nmX4 hown hK hS (hXf.main) (hA.a (xV0 (by omega))) rfl 9 (by decide) (hts _ q_fl_X4_212) (fun _ h9 => h9) rfl (tyX4_ok 9 (by decide)) rfl rfl (Nat.le_of_ble_eq_true rfl) dX4_serve_38 (fun H8 locs hU hS => ?_)
  have hX9 := hXf.ptt (tt' := vp_updL t4 2 ((t4 2) + ((nI (L - (fu (svG g i0) i0 L 6).2)).toInt64))) hA hU
  obtain ⟨t9, ht9⟩ : ∃ z, z = vp_updL t4 2 ((t4 2) + ((nI (L - (fu (svG g i0) i0 L 6).2)).toInt64)) := ⟨_, rfl⟩
  rw [← ht9] at hX9
  refine lv_iload_n hx hb dX4_serve_41 rfl (lv_at hl 0 rfl) ?_
  have hpost := (show xW D cA ad (svF g tt i0 L).1 (svF g tt i0 L).2.1 N H8 ∧ nI (L - (fu (svG g i0) i0 L 6).2) = nI (L - (svF g tt i0 L).2.2) from ⟨by
      have z : t9 = (svF g tt i0 L).2.1 := by rw [ht9, ht4]; rfl
      have z1 : gf = (svF g tt i0 L).1 := hgf
      rw [← z, ← z1]
      exact hX9, rfl⟩)
  refine W.widen (k := 0) (n := 0) (by omega) (by omega) ?_
  exact W.iret (v := (nI (L - (fu (svG g i0) i0 L 6).2))) hx hb hr (fun t ht _ => ⟨⟨(nI (L - (fu (svG g i0) i0 L 6).2)), H8, rfl, hpost, ht⟩, hS.F ht⟩) hS.2.2 dX4_serve_42
