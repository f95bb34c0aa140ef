/-! The model is made (by p57.py) -/
theorem inc_lt {b : Nat → Nat} {n : Nat} (h : ∀ i, i + 1 < n → b i < b (i + 1)) (i : Nat) : ∀ d, i + d + 1 < n → b i < b (i + d + 1) := by
  intro d
  induction d with
  | zero => exact fun z => h i z
  | succ d ih =>
    intro z
    exact Nat.lt_trans (ih (by omega)) (h (i + d + 1) z)
theorem inc_inj {b : Nat → Nat} {n : Nat} (h : ∀ i, i + 1 < n → b i < b (i + 1)) : ∀ i j, i < n → j < n → b i = b j → i = j := by
  intro i j hi hj he
  rcases Nat.lt_trichotomy i j with q | q | q
  · have z := inc_lt h i (j - i - 1) (by omega)
    rw [show i + (j - i - 1) + 1 = j by omega] at z
    omega
  · exact q
  · have z := inc_lt h j (i - j - 1) (by omega)
    rw [show j + (i - j - 1) + 1 = i by omega] at z
    omega
set_option maxHeartbeats 4000000 in
set_option maxRecDepth 100000 in
/-- VendingRoundsModel.<init>() -/
theorem c_X5_init (l : Launch) (D : va_G) (cA : Nat → ClassId) (e0 : Nat) (A : Nat → Prop) (H0 : Heap) (a0 : Nat) (h_a0 : va_at D vwCl (a0, .inr (6, [.int (0), .int (0), .int (0), .null, .null, .null, .null, .null, .null, .null, .null, .null, .null, .int (0), .null, .null, .null])) H0) (hAa : A a0) (hAn : ∀ q, H0.size ≤ q → A q) : Met l yX5_init w_X5_init ({ frames := 1, cells := 13, slots := 2761, locals := 40 } : Room) (xPc D cA e0 A H0 [.ref (a0)]) (xQv (fun h => ∃ b, yW D cA b g00 (fun _ => 0) 0 0 h ∧ yA A b 0 0 ∧ b 0 = a0) A) 13 2761 (A) := by
  refine Met.ofW (cc := cX5_init) (maxL := 2) (ret := none) (by decide) rfl ?_
  intro p e s m args below meth c s₁ B hml hv
  obtain ⟨rfl, hH, hE⟩ := hv
  subst hH
  have hx := B.exec
  have hb := B.bytes
  have hr := B.returns
  have hts := hE.1.all ([.ref (a0)] : List Value).toArray
  have hown : s.vm.findClass RX5 = some m.cls := findClass_of_methodNamed B.named
  have hlocks := B.notSynchronized
  have hin : meth.name = "<init>" := (name_of_methodNamed B.named B.method).1
  have hK := hE.2.1
  have hS : va_S A s.heap s.heap [] := va_S.rf
  have hl := lv_entry ([.ref (a0)]) (n := 2) (Nat.le_of_ble_eq_true rfl)
  rw [lg_entry_eq]
  generalize (lg_sl ([.ref (a0)]) ++ List.replicate (2 - (lg_sl ([.ref (a0)])).length) Slot.unset).toArray = ls at hl ⊢
  have hl : lv_has ls 2 [(0, .ref (a0))] := hl
  have hS0 := hS
  refine lv_aload_n hx hb dX5_init_0 rfl (lv_at hl 0 rfl) ?_
  refine W.objInit hx hb hown (hts _ q_ml_X5_1) (hts _ q_im_java_lang_Object__init_) (hts _ q_co_obj) rfl (by rw [hml]; exact hl.1) rfl dX5_init_1 (Nat.le_of_ble_eq_true rfl) (Nat.le_of_ble_eq_true rfl) ?_
  refine W.eq (g2 := F0 m 4 ls []) rfl ?_
  refine lv_aload_n hx hb dX5_init_4 rfl (lv_at hl 0 rfl) ?_
  refine lv_bipush (v := nI 8) hx hb dX5_init_5 (by decide) ?_
  have hS0 := hS
  refine xnewa (D := D) (atype := .int) (a0 := (8, .inl (fun _ => 0))) hx hb (hts _ q_ac_int) rfl (Or.inl rfl) hK hS 0 rfl (fun _ => rfl) (nI_pos (by omega)) (nI_clamp (n := 8) (by omega)) (Nat.le_of_ble_eq_true rfl) (Nat.le_of_ble_eq_true rfl) (Nat.le_of_ble_eq_true rfl) dX5_init_7 (fun q1 H1 hN hS => ?_)
  obtain ⟨q1, hzq1⟩ : ∃ z, z = q1 := ⟨_, rfl⟩
  rw [← hzq1] at hN ⊢
  have hA_q1 : s.heap.size ≤ q1 := by
    have h9 := hS0.1
    have := hN.2.1
    omega
  have l_q1 : a0 < q1 := by
    have h9 := h_a0.lt
    have := hN.2.1
    omega
  have h_a0 := h_a0.kept (hN.2.2.2 _ h_a0.lt)
  have h_q1 := hN.1
  refine xputF (D := D) (ci := 6) (v := .ref (q1)) (C := RX5) (T := TX5) (N := 17) hx hb hts qi_X5 tyX5 tyX5_ok nmX5 hown hK hS h_a0 hAa rfl 3 (by decide) (hts _ q_fl_X5_9) (fun _ h9 => h9) rfl hin rfl (tyX5_ok 3 (by decide)) rfl rfl (Nat.le_of_ble_eq_true rfl) dX5_init_9 (fun H2 locs hU hS => ?_)
  have h_q1 := h_q1.kept (hU.2.2 _ (fun z => by omega))
  have h_a0 := hU.1
  refine lv_aload_n hx hb dX5_init_12 rfl (lv_at hl 0 rfl) ?_
  refine lv_bipush (v := nI 8) hx hb dX5_init_13 (by decide) ?_
  have hS0 := hS
  refine xnewa (D := D) (atype := .int) (a0 := (8, .inl (fun _ => 0))) hx hb (hts _ q_ac_int) rfl (Or.inl rfl) hK hS 0 rfl (fun _ => rfl) (nI_pos (by omega)) (nI_clamp (n := 8) (by omega)) (Nat.le_of_ble_eq_true rfl) (Nat.le_of_ble_eq_true rfl) (Nat.le_of_ble_eq_true rfl) dX5_init_15 (fun q3 H3 hN hS => ?_)
  obtain ⟨q2, hzq2⟩ : ∃ z, z = q3 := ⟨_, rfl⟩
  rw [← hzq2] at hN ⊢
  have hA_q2 : s.heap.size ≤ q2 := by
    have h9 := hS0.1
    have := hN.2.1
    omega
  have l_q2 : q1 < q2 := by
    have h9 := h_q1.lt
    have := hN.2.1
    omega
  have h_a0 := h_a0.kept (hN.2.2.2 _ h_a0.lt)
  have h_q1 := h_q1.kept (hN.2.2.2 _ h_q1.lt)
  have h_q2 := hN.1
  refine xputF (D := D) (ci := 6) (v := .ref (q2)) (C := RX5) (T := TX5) (N := 17) hx hb hts qi_X5 tyX5 tyX5_ok nmX5 hown hK hS h_a0 hAa rfl 4 (by decide) (hts _ q_fl_X5_13) (fun _ h9 => h9) rfl hin rfl (tyX5_ok 4 (by decide)) rfl rfl (Nat.le_of_ble_eq_true rfl) dX5_init_17 (fun H4 locs hU hS => ?_)
  have h_q1 := h_q1.kept (hU.2.2 _ (fun z => by omega))
  have h_q2 := h_q2.kept (hU.2.2 _ (fun z => by omega))
  have h_a0 := hU.1
  refine lv_aload_n hx hb dX5_init_20 rfl (lv_at hl 0 rfl) ?_
  refine lv_bipush (v := nI 8) hx hb dX5_init_21 (by decide) ?_
  have hS0 := hS
  refine xnewa (D := D) (atype := .int) (a0 := (8, .inl (fun _ => 0))) hx hb (hts _ q_ac_int) rfl (Or.inl rfl) hK hS 0 rfl (fun _ => rfl) (nI_pos (by omega)) (nI_clamp (n := 8) (by omega)) (Nat.le_of_ble_eq_true rfl) (Nat.le_of_ble_eq_true rfl) (Nat.le_of_ble_eq_true rfl) dX5_init_23 (fun q5 H5 hN hS => ?_)
  obtain ⟨q3, hzq3⟩ : ∃ z, z = q5 := ⟨_, rfl⟩
  rw [← hzq3] at hN ⊢
  have hA_q3 : s.heap.size ≤ q3 := by
    have h9 := hS0.1
    have := hN.2.1
    omega
  have l_q3 : q2 < q3 := by
    have h9 := h_q2.lt
    have := hN.2.1
    omega
  have h_a0 := h_a0.kept (hN.2.2.2 _ h_a0.lt)
  have h_q1 := h_q1.kept (hN.2.2.2 _ h_q1.lt)
  have h_q2 := h_q2.kept (hN.2.2.2 _ h_q2.lt)
  have h_q3 := hN.1
  refine xputF (D := D) (ci := 6) (v := .ref (q3)) (C := RX5) (T := TX5) (N := 17) hx hb hts qi_X5 tyX5 tyX5_ok nmX5 hown hK hS h_a0 hAa rfl 5 (by decide) (hts _ q_fl_X5_16) (fun _ h9 => h9) rfl hin rfl (tyX5_ok 5 (by decide)) rfl rfl (Nat.le_of_ble_eq_true rfl) dX5_init_25 (fun H6 locs hU hS => ?_)
  have h_q1 := h_q1.kept (hU.2.2 _ (fun z => by omega))
  have h_q2 := h_q2.kept (hU.2.2 _ (fun z => by omega))
  have h_q3 := h_q3.kept (hU.2.2 _ (fun z => by omega))
  have h_a0 := hU.1
  refine lv_aload_n hx hb dX5_init_28 rfl (lv_at hl 0 rfl) ?_
  refine lv_bipush (v := nI 81) hx hb dX5_init_29 (by decide) ?_
  have hS0 := hS
  refine xnewa (D := D) (atype := .int) (a0 := (81, .inl (fun _ => 0))) hx hb (hts _ q_ac_int) rfl (Or.inl rfl) hK hS 0 rfl (fun _ => rfl) (nI_pos (by omega)) (nI_clamp (n := 81) (by omega)) (Nat.le_of_ble_eq_true rfl) (Nat.le_of_ble_eq_true rfl) (Nat.le_of_ble_eq_true rfl) dX5_init_31 (fun q7 H7 hN hS => ?_)
  obtain ⟨q4, hzq4⟩ : ∃ z, z = q7 := ⟨_, rfl⟩
  rw [← hzq4] at hN ⊢
  have hA_q4 : s.heap.size ≤ q4 := by
    have h9 := hS0.1
    have := hN.2.1
    omega
  have l_q4 : q3 < q4 := by
    have h9 := h_q3.lt
    have := hN.2.1
    omega
  have h_a0 := h_a0.kept (hN.2.2.2 _ h_a0.lt)
  have h_q1 := h_q1.kept (hN.2.2.2 _ h_q1.lt)
  have h_q2 := h_q2.kept (hN.2.2.2 _ h_q2.lt)
  have h_q3 := h_q3.kept (hN.2.2.2 _ h_q3.lt)
  have h_q4 := hN.1
  refine xputF (D := D) (ci := 6) (v := .ref (q4)) (C := RX5) (T := TX5) (N := 17) hx hb hts qi_X5 tyX5 tyX5_ok nmX5 hown hK hS h_a0 hAa rfl 6 (by decide) (hts _ q_fl_X5_19) (fun _ h9 => h9) rfl hin rfl (tyX5_ok 6 (by decide)) rfl rfl (Nat.le_of_ble_eq_true rfl) dX5_init_33 (fun H8 locs hU hS => ?_)
  have h_q1 := h_q1.kept (hU.2.2 _ (fun z => by omega))
  have h_q2 := h_q2.kept (hU.2.2 _ (fun z => by omega))
  have h_q3 := h_q3.kept (hU.2.2 _ (fun z => by omega))
  have h_q4 := h_q4.kept (hU.2.2 _ (fun z => by omega))
  have h_a0 := hU.1
  refine lv_aload_n hx hb dX5_init_36 rfl (lv_at hl 0 rfl) ?_
  refine lv_bipush (v := nI 48) hx hb dX5_init_37 (by decide) ?_
  have hS0 := hS
  refine xnewa (D := D) (atype := .int) (a0 := (48, .inl (fun _ => 0))) hx hb (hts _ q_ac_int) rfl (Or.inl rfl) hK hS 0 rfl (fun _ => rfl) (nI_pos (by omega)) (nI_clamp (n := 48) (by omega)) (Nat.le_of_ble_eq_true rfl) (Nat.le_of_ble_eq_true rfl) (Nat.le_of_ble_eq_true rfl) dX5_init_39 (fun q9 H9 hN hS => ?_)
  obtain ⟨q5, hzq5⟩ : ∃ z, z = q9 := ⟨_, rfl⟩
  rw [← hzq5] at hN ⊢
  have hA_q5 : s.heap.size ≤ q5 := by
    have h9 := hS0.1
    have := hN.2.1
    omega
  have l_q5 : q4 < q5 := by
    have h9 := h_q4.lt
    have := hN.2.1
    omega
  have h_a0 := h_a0.kept (hN.2.2.2 _ h_a0.lt)
  have h_q1 := h_q1.kept (hN.2.2.2 _ h_q1.lt)
  have h_q2 := h_q2.kept (hN.2.2.2 _ h_q2.lt)
  have h_q3 := h_q3.kept (hN.2.2.2 _ h_q3.lt)
  have h_q4 := h_q4.kept (hN.2.2.2 _ h_q4.lt)
  have h_q5 := hN.1
  refine xputF (D := D) (ci := 6) (v := .ref (q5)) (C := RX5) (T := TX5) (N := 17) hx hb hts qi_X5 tyX5 tyX5_ok nmX5 hown hK hS h_a0 hAa rfl 7 (by decide) (hts _ q_fl_X5_22) (fun _ h9 => h9) rfl hin rfl (tyX5_ok 7 (by decide)) rfl rfl (Nat.le_of_ble_eq_true rfl) dX5_init_41 (fun H10 locs hU hS => ?_)
  have h_q1 := h_q1.kept (hU.2.2 _ (fun z => by omega))
  have h_q2 := h_q2.kept (hU.2.2 _ (fun z => by omega))
  have h_q3 := h_q3.kept (hU.2.2 _ (fun z => by omega))
  have h_q4 := h_q4.kept (hU.2.2 _ (fun z => by omega))
  have h_q5 := h_q5.kept (hU.2.2 _ (fun z => by omega))
  have h_a0 := hU.1
  refine lv_aload_n hx hb dX5_init_44 rfl (lv_at hl 0 rfl) ?_
  refine lv_bipush (v := nI 48) hx hb dX5_init_45 (by decide) ?_
  have hS0 := hS
  refine xnewa (D := D) (atype := .int) (a0 := (48, .inl (fun _ => 0))) hx hb (hts _ q_ac_int) rfl (Or.inl rfl) hK hS 0 rfl (fun _ => rfl) (nI_pos (by omega)) (nI_clamp (n := 48) (by omega)) (Nat.le_of_ble_eq_true rfl) (Nat.le_of_ble_eq_true rfl) (Nat.le_of_ble_eq_true rfl) dX5_init_47 (fun q11 H11 hN hS => ?_)
  obtain ⟨q6, hzq6⟩ : ∃ z, z = q11 := ⟨_, rfl⟩
  rw [← hzq6] at hN ⊢
  have hA_q6 : s.heap.size ≤ q6 := by
    have h9 := hS0.1
    have := hN.2.1
    omega
  have l_q6 : q5 < q6 := by
    have h9 := h_q5.lt
    have := hN.2.1
    omega
  have h_a0 := h_a0.kept (hN.2.2.2 _ h_a0.lt)
  have h_q1 := h_q1.kept (hN.2.2.2 _ h_q1.lt)
  have h_q2 := h_q2.kept (hN.2.2.2 _ h_q2.lt)
  have h_q3 := h_q3.kept (hN.2.2.2 _ h_q3.lt)
  have h_q4 := h_q4.kept (hN.2.2.2 _ h_q4.lt)
  have h_q5 := h_q5.kept (hN.2.2.2 _ h_q5.lt)
  have h_q6 := hN.1
  refine xputF (D := D) (ci := 6) (v := .ref (q6)) (C := RX5) (T := TX5) (N := 17) hx hb hts qi_X5 tyX5 tyX5_ok nmX5 hown hK hS h_a0 hAa rfl 8 (by decide) (hts _ q_fl_X5_25) (fun _ h9 => h9) rfl hin rfl (tyX5_ok 8 (by decide)) rfl rfl (Nat.le_of_ble_eq_true rfl) dX5_init_49 (fun H12 locs hU hS => ?_)
  have h_q1 := h_q1.kept (hU.2.2 _ (fun z => by omega))
  have h_q2 := h_q2.kept (hU.2.2 _ (fun z => by omega))
  have h_q3 := h_q3.kept (hU.2.2 _ (fun z => by omega))
  have h_q4 := h_q4.kept (hU.2.2 _ (fun z => by omega))
  have h_q5 := h_q5.kept (hU.2.2 _ (fun z => by omega))
  have h_q6 := h_q6.kept (hU.2.2 _ (fun z => by omega))
  have h_a0 := hU.1
  refine lv_aload_n hx hb dX5_init_52 rfl (lv_at hl 0 rfl) ?_
  refine lv_bipush (v := nI 48) hx hb dX5_init_53 (by decide) ?_
  have hS0 := hS
  refine xnewa (D := D) (atype := .int) (a0 := (48, .inl (fun _ => 0))) hx hb (hts _ q_ac_int) rfl (Or.inl rfl) hK hS 0 rfl (fun _ => rfl) (nI_pos (by omega)) (nI_clamp (n := 48) (by omega)) (Nat.le_of_ble_eq_true rfl) (Nat.le_of_ble_eq_true rfl) (Nat.le_of_ble_eq_true rfl) dX5_init_55 (fun q13 H13 hN hS => ?_)
  obtain ⟨q7, hzq7⟩ : ∃ z, z = q13 := ⟨_, rfl⟩
  rw [← hzq7] at hN ⊢
  have hA_q7 : s.heap.size ≤ q7 := by
    have h9 := hS0.1
    have := hN.2.1
    omega
  have l_q7 : q6 < q7 := by
    have h9 := h_q6.lt
    have := hN.2.1
    omega
  have h_a0 := h_a0.kept (hN.2.2.2 _ h_a0.lt)
  have h_q1 := h_q1.kept (hN.2.2.2 _ h_q1.lt)
  have h_q2 := h_q2.kept (hN.2.2.2 _ h_q2.lt)
  have h_q3 := h_q3.kept (hN.2.2.2 _ h_q3.lt)
  have h_q4 := h_q4.kept (hN.2.2.2 _ h_q4.lt)
  have h_q5 := h_q5.kept (hN.2.2.2 _ h_q5.lt)
  have h_q6 := h_q6.kept (hN.2.2.2 _ h_q6.lt)
  have h_q7 := hN.1
  refine xputF (D := D) (ci := 6) (v := .ref (q7)) (C := RX5) (T := TX5) (N := 17) hx hb hts qi_X5 tyX5 tyX5_ok nmX5 hown hK hS h_a0 hAa rfl 9 (by decide) (hts _ q_fl_X5_28) (fun _ h9 => h9) rfl hin rfl (tyX5_ok 9 (by decide)) rfl rfl (Nat.le_of_ble_eq_true rfl) dX5_init_57 (fun H14 locs hU hS => ?_)
  have h_q1 := h_q1.kept (hU.2.2 _ (fun z => by omega))
  have h_q2 := h_q2.kept (hU.2.2 _ (fun z => by omega))
  have h_q3 := h_q3.kept (hU.2.2 _ (fun z => by omega))
  have h_q4 := h_q4.kept (hU.2.2 _ (fun z => by omega))
  have h_q5 := h_q5.kept (hU.2.2 _ (fun z => by omega))
  have h_q6 := h_q6.kept (hU.2.2 _ (fun z => by omega))
  have h_q7 := h_q7.kept (hU.2.2 _ (fun z => by omega))
  have h_a0 := hU.1
  refine lv_aload_n hx hb dX5_init_60 rfl (lv_at hl 0 rfl) ?_
  refine lv_bipush (v := nI 48) hx hb dX5_init_61 (by decide) ?_
  have hS0 := hS
  refine xnewa (D := D) (atype := .int) (a0 := (48, .inl (fun _ => 0))) hx hb (hts _ q_ac_int) rfl (Or.inl rfl) hK hS 0 rfl (fun _ => rfl) (nI_pos (by omega)) (nI_clamp (n := 48) (by omega)) (Nat.le_of_ble_eq_true rfl) (Nat.le_of_ble_eq_true rfl) (Nat.le_of_ble_eq_true rfl) dX5_init_63 (fun q15 H15 hN hS => ?_)
  obtain ⟨q8, hzq8⟩ : ∃ z, z = q15 := ⟨_, rfl⟩
  rw [← hzq8] at hN ⊢
  have hA_q8 : s.heap.size ≤ q8 := by
    have h9 := hS0.1
    have := hN.2.1
    omega
  have l_q8 : q7 < q8 := by
    have h9 := h_q7.lt
    have := hN.2.1
    omega
  have h_a0 := h_a0.kept (hN.2.2.2 _ h_a0.lt)
  have h_q1 := h_q1.kept (hN.2.2.2 _ h_q1.lt)
  have h_q2 := h_q2.kept (hN.2.2.2 _ h_q2.lt)
  have h_q3 := h_q3.kept (hN.2.2.2 _ h_q3.lt)
  have h_q4 := h_q4.kept (hN.2.2.2 _ h_q4.lt)
  have h_q5 := h_q5.kept (hN.2.2.2 _ h_q5.lt)
  have h_q6 := h_q6.kept (hN.2.2.2 _ h_q6.lt)
  have h_q7 := h_q7.kept (hN.2.2.2 _ h_q7.lt)
  have h_q8 := hN.1
  refine xputF (D := D) (ci := 6) (v := .ref (q8)) (C := RX5) (T := TX5) (N := 17) hx hb hts qi_X5 tyX5 tyX5_ok nmX5 hown hK hS h_a0 hAa rfl 10 (by decide) (hts _ q_fl_X5_31) (fun _ h9 => h9) rfl hin rfl (tyX5_ok 10 (by decide)) rfl rfl (Nat.le_of_ble_eq_true rfl) dX5_init_65 (fun H16 locs hU hS => ?_)
  have h_q1 := h_q1.kept (hU.2.2 _ (fun z => by omega))
  have h_q2 := h_q2.kept (hU.2.2 _ (fun z => by omega))
  have h_q3 := h_q3.kept (hU.2.2 _ (fun z => by omega))
  have h_q4 := h_q4.kept (hU.2.2 _ (fun z => by omega))
  have h_q5 := h_q5.kept (hU.2.2 _ (fun z => by omega))
  have h_q6 := h_q6.kept (hU.2.2 _ (fun z => by omega))
  have h_q7 := h_q7.kept (hU.2.2 _ (fun z => by omega))
  have h_q8 := h_q8.kept (hU.2.2 _ (fun z => by omega))
  have h_a0 := hU.1
  refine lv_aload_n hx hb dX5_init_68 rfl (lv_at hl 0 rfl) ?_
  refine lv_bipush (v := nI 48) hx hb dX5_init_69 (by decide) ?_
  have hS0 := hS
  refine xnewa (D := D) (atype := .int) (a0 := (48, .inl (fun _ => 0))) hx hb (hts _ q_ac_int) rfl (Or.inl rfl) hK hS 0 rfl (fun _ => rfl) (nI_pos (by omega)) (nI_clamp (n := 48) (by omega)) (Nat.le_of_ble_eq_true rfl) (Nat.le_of_ble_eq_true rfl) (Nat.le_of_ble_eq_true rfl) dX5_init_71 (fun q17 H17 hN hS => ?_)
  obtain ⟨q9, hzq9⟩ : ∃ z, z = q17 := ⟨_, rfl⟩
  rw [← hzq9] at hN ⊢
  have hA_q9 : s.heap.size ≤ q9 := by
    have h9 := hS0.1
    have := hN.2.1
    omega
  have l_q9 : q8 < q9 := by
    have h9 := h_q8.lt
    have := hN.2.1
    omega
  have h_a0 := h_a0.kept (hN.2.2.2 _ h_a0.lt)
  have h_q1 := h_q1.kept (hN.2.2.2 _ h_q1.lt)
  have h_q2 := h_q2.kept (hN.2.2.2 _ h_q2.lt)
  have h_q3 := h_q3.kept (hN.2.2.2 _ h_q3.lt)
  have h_q4 := h_q4.kept (hN.2.2.2 _ h_q4.lt)
  have h_q5 := h_q5.kept (hN.2.2.2 _ h_q5.lt)
  have h_q6 := h_q6.kept (hN.2.2.2 _ h_q6.lt)
  have h_q7 := h_q7.kept (hN.2.2.2 _ h_q7.lt)
  have h_q8 := h_q8.kept (hN.2.2.2 _ h_q8.lt)
  have h_q9 := hN.1
  refine xputF (D := D) (ci := 6) (v := .ref (q9)) (C := RX5) (T := TX5) (N := 17) hx hb hts qi_X5 tyX5 tyX5_ok nmX5 hown hK hS h_a0 hAa rfl 11 (by decide) (hts _ q_fl_X5_34) (fun _ h9 => h9) rfl hin rfl (tyX5_ok 11 (by decide)) rfl rfl (Nat.le_of_ble_eq_true rfl) dX5_init_73 (fun H18 locs hU hS => ?_)
  have h_q1 := h_q1.kept (hU.2.2 _ (fun z => by omega))
  have h_q2 := h_q2.kept (hU.2.2 _ (fun z => by omega))
  have h_q3 := h_q3.kept (hU.2.2 _ (fun z => by omega))
  have h_q4 := h_q4.kept (hU.2.2 _ (fun z => by omega))
  have h_q5 := h_q5.kept (hU.2.2 _ (fun z => by omega))
  have h_q6 := h_q6.kept (hU.2.2 _ (fun z => by omega))
  have h_q7 := h_q7.kept (hU.2.2 _ (fun z => by omega))
  have h_q8 := h_q8.kept (hU.2.2 _ (fun z => by omega))
  have h_q9 := h_q9.kept (hU.2.2 _ (fun z => by omega))
  have h_a0 := hU.1
  refine lv_aload_n hx hb dX5_init_76 rfl (lv_at hl 0 rfl) ?_
  refine lv_bipush (v := nI 48) hx hb dX5_init_77 (by decide) ?_
  have hS0 := hS
  refine xnewa (D := D) (atype := .int) (a0 := (48, .inl (fun _ => 0))) hx hb (hts _ q_ac_int) rfl (Or.inl rfl) hK hS 0 rfl (fun _ => rfl) (nI_pos (by omega)) (nI_clamp (n := 48) (by omega)) (Nat.le_of_ble_eq_true rfl) (Nat.le_of_ble_eq_true rfl) (Nat.le_of_ble_eq_true rfl) dX5_init_79 (fun q19 H19 hN hS => ?_)
  obtain ⟨q10, hzq10⟩ : ∃ z, z = q19 := ⟨_, rfl⟩
  rw [← hzq10] at hN ⊢
  have hA_q10 : s.heap.size ≤ q10 := by
    have h9 := hS0.1
    have := hN.2.1
    omega
  have l_q10 : q9 < q10 := by
    have h9 := h_q9.lt
    have := hN.2.1
    omega
  have h_a0 := h_a0.kept (hN.2.2.2 _ h_a0.lt)
  have h_q1 := h_q1.kept (hN.2.2.2 _ h_q1.lt)
  have h_q2 := h_q2.kept (hN.2.2.2 _ h_q2.lt)
  have h_q3 := h_q3.kept (hN.2.2.2 _ h_q3.lt)
  have h_q4 := h_q4.kept (hN.2.2.2 _ h_q4.lt)
  have h_q5 := h_q5.kept (hN.2.2.2 _ h_q5.lt)
  have h_q6 := h_q6.kept (hN.2.2.2 _ h_q6.lt)
  have h_q7 := h_q7.kept (hN.2.2.2 _ h_q7.lt)
  have h_q8 := h_q8.kept (hN.2.2.2 _ h_q8.lt)
  have h_q9 := h_q9.kept (hN.2.2.2 _ h_q9.lt)
  have h_q10 := hN.1
  refine xputF (D := D) (ci := 6) (v := .ref (q10)) (C := RX5) (T := TX5) (N := 17) hx hb hts qi_X5 tyX5 tyX5_ok nmX5 hown hK hS h_a0 hAa rfl 12 (by decide) (hts _ q_fl_X5_37) (fun _ h9 => h9) rfl hin rfl (tyX5_ok 12 (by decide)) rfl rfl (Nat.le_of_ble_eq_true rfl) dX5_init_81 (fun H20 locs hU hS => ?_)
  have h_q1 := h_q1.kept (hU.2.2 _ (fun z => by omega))
  have h_q2 := h_q2.kept (hU.2.2 _ (fun z => by omega))
  have h_q3 := h_q3.kept (hU.2.2 _ (fun z => by omega))
  have h_q4 := h_q4.kept (hU.2.2 _ (fun z => by omega))
  have h_q5 := h_q5.kept (hU.2.2 _ (fun z => by omega))
  have h_q6 := h_q6.kept (hU.2.2 _ (fun z => by omega))
  have h_q7 := h_q7.kept (hU.2.2 _ (fun z => by omega))
  have h_q8 := h_q8.kept (hU.2.2 _ (fun z => by omega))
  have h_q9 := h_q9.kept (hU.2.2 _ (fun z => by omega))
  have h_q10 := h_q10.kept (hU.2.2 _ (fun z => by omega))
  have h_a0 := hU.1
  refine lv_aload_n hx hb dX5_init_84 rfl (lv_at hl 0 rfl) ?_
  refine lv_bipush (v := nI 60) hx hb dX5_init_85 (by decide) ?_
  have hS0 := hS
  refine xnewa (D := D) (atype := .int) (a0 := (60, .inl (fun _ => 0))) hx hb (hts _ q_ac_int) rfl (Or.inl rfl) hK hS 0 rfl (fun _ => rfl) (nI_pos (by omega)) (nI_clamp (n := 60) (by omega)) (Nat.le_of_ble_eq_true rfl) (Nat.le_of_ble_eq_true rfl) (Nat.le_of_ble_eq_true rfl) dX5_init_87 (fun q21 H21 hN hS => ?_)
  obtain ⟨q11, hzq11⟩ : ∃ z, z = q21 := ⟨_, rfl⟩
  rw [← hzq11] at hN ⊢
  have hA_q11 : s.heap.size ≤ q11 := by
    have h9 := hS0.1
    have := hN.2.1
    omega
  have l_q11 : q10 < q11 := by
    have h9 := h_q10.lt
    have := hN.2.1
    omega
  have h_a0 := h_a0.kept (hN.2.2.2 _ h_a0.lt)
  have h_q1 := h_q1.kept (hN.2.2.2 _ h_q1.lt)
  have h_q2 := h_q2.kept (hN.2.2.2 _ h_q2.lt)
  have h_q3 := h_q3.kept (hN.2.2.2 _ h_q3.lt)
  have h_q4 := h_q4.kept (hN.2.2.2 _ h_q4.lt)
  have h_q5 := h_q5.kept (hN.2.2.2 _ h_q5.lt)
  have h_q6 := h_q6.kept (hN.2.2.2 _ h_q6.lt)
  have h_q7 := h_q7.kept (hN.2.2.2 _ h_q7.lt)
  have h_q8 := h_q8.kept (hN.2.2.2 _ h_q8.lt)
  have h_q9 := h_q9.kept (hN.2.2.2 _ h_q9.lt)
  have h_q10 := h_q10.kept (hN.2.2.2 _ h_q10.lt)
  have h_q11 := hN.1
  refine xputF (D := D) (ci := 6) (v := .ref (q11)) (C := RX5) (T := TX5) (N := 17) hx hb hts qi_X5 tyX5 tyX5_ok nmX5 hown hK hS h_a0 hAa rfl 14 (by decide) (hts _ q_fl_X5_40) (fun _ h9 => h9) rfl hin rfl (tyX5_ok 14 (by decide)) rfl rfl (Nat.le_of_ble_eq_true rfl) dX5_init_89 (fun H22 locs hU hS => ?_)
  have h_q1 := h_q1.kept (hU.2.2 _ (fun z => by omega))
  have h_q2 := h_q2.kept (hU.2.2 _ (fun z => by omega))
  have h_q3 := h_q3.kept (hU.2.2 _ (fun z => by omega))
  have h_q4 := h_q4.kept (hU.2.2 _ (fun z => by omega))
  have h_q5 := h_q5.kept (hU.2.2 _ (fun z => by omega))
  have h_q6 := h_q6.kept (hU.2.2 _ (fun z => by omega))
  have h_q7 := h_q7.kept (hU.2.2 _ (fun z => by omega))
  have h_q8 := h_q8.kept (hU.2.2 _ (fun z => by omega))
  have h_q9 := h_q9.kept (hU.2.2 _ (fun z => by omega))
  have h_q10 := h_q10.kept (hU.2.2 _ (fun z => by omega))
  have h_q11 := h_q11.kept (hU.2.2 _ (fun z => by omega))
  have h_a0 := hU.1
  refine lv_aload_n hx hb dX5_init_92 rfl (lv_at hl 0 rfl) ?_
  refine lv_iconst (v := nI 4) hx hb dX5_init_93 (by decide) ?_
  have hS0 := hS
  refine xnewa (D := D) (atype := .long) (a0 := (4, .inr (.inl (fun _ => 0)))) hx hb (hts _ q_ac_long) rfl (Or.inr rfl) hK hS 1 rfl (fun _ => rfl) (nI_pos (by omega)) (nI_clamp (n := 4) (by omega)) (Nat.le_of_ble_eq_true rfl) (Nat.le_of_ble_eq_true rfl) (Nat.le_of_ble_eq_true rfl) dX5_init_94 (fun q23 H23 hN hS => ?_)
  obtain ⟨q12, hzq12⟩ : ∃ z, z = q23 := ⟨_, rfl⟩
  rw [← hzq12] at hN ⊢
  have hA_q12 : s.heap.size ≤ q12 := by
    have h9 := hS0.1
    have := hN.2.1
    omega
  have l_q12 : q11 < q12 := by
    have h9 := h_q11.lt
    have := hN.2.1
    omega
  have h_a0 := h_a0.kept (hN.2.2.2 _ h_a0.lt)
  have h_q1 := h_q1.kept (hN.2.2.2 _ h_q1.lt)
  have h_q2 := h_q2.kept (hN.2.2.2 _ h_q2.lt)
  have h_q3 := h_q3.kept (hN.2.2.2 _ h_q3.lt)
  have h_q4 := h_q4.kept (hN.2.2.2 _ h_q4.lt)
  have h_q5 := h_q5.kept (hN.2.2.2 _ h_q5.lt)
  have h_q6 := h_q6.kept (hN.2.2.2 _ h_q6.lt)
  have h_q7 := h_q7.kept (hN.2.2.2 _ h_q7.lt)
  have h_q8 := h_q8.kept (hN.2.2.2 _ h_q8.lt)
  have h_q9 := h_q9.kept (hN.2.2.2 _ h_q9.lt)
  have h_q10 := h_q10.kept (hN.2.2.2 _ h_q10.lt)
  have h_q11 := h_q11.kept (hN.2.2.2 _ h_q11.lt)
  have h_q12 := hN.1
  refine xputF (D := D) (ci := 6) (v := .ref (q12)) (C := RX5) (T := TX5) (N := 17) hx hb hts qi_X5 tyX5 tyX5_ok nmX5 hown hK hS h_a0 hAa rfl 15 (by decide) (hts _ q_fl_X5_43) (fun _ h9 => h9) rfl hin rfl (tyX5_ok 15 (by decide)) rfl rfl (Nat.le_of_ble_eq_true rfl) dX5_init_96 (fun H24 locs hU hS => ?_)
  have h_q1 := h_q1.kept (hU.2.2 _ (fun z => by omega))
  have h_q2 := h_q2.kept (hU.2.2 _ (fun z => by omega))
  have h_q3 := h_q3.kept (hU.2.2 _ (fun z => by omega))
  have h_q4 := h_q4.kept (hU.2.2 _ (fun z => by omega))
  have h_q5 := h_q5.kept (hU.2.2 _ (fun z => by omega))
  have h_q6 := h_q6.kept (hU.2.2 _ (fun z => by omega))
  have h_q7 := h_q7.kept (hU.2.2 _ (fun z => by omega))
  have h_q8 := h_q8.kept (hU.2.2 _ (fun z => by omega))
  have h_q9 := h_q9.kept (hU.2.2 _ (fun z => by omega))
  have h_q10 := h_q10.kept (hU.2.2 _ (fun z => by omega))
  have h_q11 := h_q11.kept (hU.2.2 _ (fun z => by omega))
  have h_q12 := h_q12.kept (hU.2.2 _ (fun z => by omega))
  have h_a0 := hU.1
  refine lv_aload_n hx hb dX5_init_99 rfl (lv_at hl 0 rfl) ?_
  refine lv_sipush (v := nI 2304) hx hb dX5_init_100 (by decide) ?_
  have hS0 := hS
  refine xnewa (D := D) (atype := .int) (a0 := (2304, .inl (fun _ => 0))) hx hb (hts _ q_ac_int) rfl (Or.inl rfl) hK hS 0 rfl (fun _ => rfl) (nI_pos (by omega)) (nI_clamp (n := 2304) (by omega)) (Nat.le_of_ble_eq_true rfl) (Nat.le_of_ble_eq_true rfl) (Nat.le_of_ble_eq_true rfl) dX5_init_103 (fun q25 H25 hN hS => ?_)
  obtain ⟨q13, hzq13⟩ : ∃ z, z = q25 := ⟨_, rfl⟩
  rw [← hzq13] at hN ⊢
  have hA_q13 : s.heap.size ≤ q13 := by
    have h9 := hS0.1
    have := hN.2.1
    omega
  have l_q13 : q12 < q13 := by
    have h9 := h_q12.lt
    have := hN.2.1
    omega
  have h_a0 := h_a0.kept (hN.2.2.2 _ h_a0.lt)
  have h_q1 := h_q1.kept (hN.2.2.2 _ h_q1.lt)
  have h_q2 := h_q2.kept (hN.2.2.2 _ h_q2.lt)
  have h_q3 := h_q3.kept (hN.2.2.2 _ h_q3.lt)
  have h_q4 := h_q4.kept (hN.2.2.2 _ h_q4.lt)
  have h_q5 := h_q5.kept (hN.2.2.2 _ h_q5.lt)
  have h_q6 := h_q6.kept (hN.2.2.2 _ h_q6.lt)
  have h_q7 := h_q7.kept (hN.2.2.2 _ h_q7.lt)
  have h_q8 := h_q8.kept (hN.2.2.2 _ h_q8.lt)
  have h_q9 := h_q9.kept (hN.2.2.2 _ h_q9.lt)
  have h_q10 := h_q10.kept (hN.2.2.2 _ h_q10.lt)
  have h_q11 := h_q11.kept (hN.2.2.2 _ h_q11.lt)
  have h_q12 := h_q12.kept (hN.2.2.2 _ h_q12.lt)
  have h_q13 := hN.1
  refine xputF (D := D) (ci := 6) (v := .ref (q13)) (C := RX5) (T := TX5) (N := 17) hx hb hts qi_X5 tyX5 tyX5_ok nmX5 hown hK hS h_a0 hAa rfl 16 (by decide) (hts _ q_fl_X5_47) (fun _ h9 => h9) rfl hin rfl (tyX5_ok 16 (by decide)) rfl rfl (Nat.le_of_ble_eq_true rfl) dX5_init_105 (fun H26 locs hU hS => ?_)
  have h_q1 := h_q1.kept (hU.2.2 _ (fun z => by omega))
  have h_q2 := h_q2.kept (hU.2.2 _ (fun z => by omega))
  have h_q3 := h_q3.kept (hU.2.2 _ (fun z => by omega))
  have h_q4 := h_q4.kept (hU.2.2 _ (fun z => by omega))
  have h_q5 := h_q5.kept (hU.2.2 _ (fun z => by omega))
  have h_q6 := h_q6.kept (hU.2.2 _ (fun z => by omega))
  have h_q7 := h_q7.kept (hU.2.2 _ (fun z => by omega))
  have h_q8 := h_q8.kept (hU.2.2 _ (fun z => by omega))
  have h_q9 := h_q9.kept (hU.2.2 _ (fun z => by omega))
  have h_q10 := h_q10.kept (hU.2.2 _ (fun z => by omega))
  have h_q11 := h_q11.kept (hU.2.2 _ (fun z => by omega))
  have h_q12 := h_q12.kept (hU.2.2 _ (fun z => by omega))
  have h_q13 := h_q13.kept (hU.2.2 _ (fun z => by omega))
  have h_a0 := hU.1
  refine lv_iconst (v := nI 0) hx hb dX5_init_108 (by decide) ?_
  refine lv_istore_n (lv' := [(1, .int (nI 0)), (0, .ref (a0))]) hx hb dX5_init_109 rfl hl (by decide) rfl (fun ls hl => ?_)
  obtain ⟨HP4, hHP4⟩ : ∃ z, z = H26 := ⟨_, rfl⟩
  have h_q4e := h_q4
  have h_a0 := h_a0.kept (show HP4[a0]? = H26[a0]? by rw [hHP4])
  have h_q1 := h_q1.kept (show HP4[q1]? = H26[q1]? by rw [hHP4])
  have h_q2 := h_q2.kept (show HP4[q2]? = H26[q2]? by rw [hHP4])
  have h_q3 := h_q3.kept (show HP4[q3]? = H26[q3]? by rw [hHP4])
  have h_q4 := h_q4.kept (show HP4[q4]? = H26[q4]? by rw [hHP4])
  have h_q5 := h_q5.kept (show HP4[q5]? = H26[q5]? by rw [hHP4])
  have h_q6 := h_q6.kept (show HP4[q6]? = H26[q6]? by rw [hHP4])
  have h_q7 := h_q7.kept (show HP4[q7]? = H26[q7]? by rw [hHP4])
  have h_q8 := h_q8.kept (show HP4[q8]? = H26[q8]? by rw [hHP4])
  have h_q9 := h_q9.kept (show HP4[q9]? = H26[q9]? by rw [hHP4])
  have h_q10 := h_q10.kept (show HP4[q10]? = H26[q10]? by rw [hHP4])
  have h_q11 := h_q11.kept (show HP4[q11]? = H26[q11]? by rw [hHP4])
  have h_q12 := h_q12.kept (show HP4[q12]? = H26[q12]? by rw [hHP4])
  have h_q13 := h_q13.kept (show HP4[q13]? = H26[q13]? by rw [hHP4])
  have LOOP110 : ∀ (n110 : Nat) (i : Nat) (f4 : Nat → Int32) (H : Heap) (locs : List Loc) (ls : Array Slot), (i ≤ 81) → (va_at D vwCl (q4, .inl (cA 0, 81, .inl f4)) H) → (∀ q, q ≠ q4 → H[q]? = HP4[q]?) → (∀ p, p < i → f4 p = way0 p) → va_S A s.heap H locs → (81 - i) < n110 → lv_has ls 2 [(1, .int (nI (i))), (0, .ref (a0))] → W p l e (headSpec w_X5_init ({ frames := 1, cells := 13, slots := 2761, locals := 40 } : Room)).room s m ([.ref (a0)] : List Value).toArray below meth c H locs (((((((((((((0 + 1) + 1) + 1) + 1) + 1) + 1) + 1) + 1) + 1) + 1) + 1) + 1) + 1) (((((((((((((0 + 8) + 8) + 8) + 81) + 48) + 48) + 48) + 48) + 48) + 48) + 60) + 4) + 2304) (MQ below (xQv (fun h => ∃ b, yW D cA b g00 (fun _ => 0) 0 0 h ∧ yA A b 0 0 ∧ b 0 = a0) A) ([.ref (a0)] : List Value).toArray s 13 2761 (A)) (F0 m 110 ls []) := by
    intro n110
    induction n110 with
    | zero => intro i f4 H locs ls hi hF4 hkp hf hS hmeas hl; exact absurd hmeas (Nat.not_lt_zero _)
    | succ n110 ih110 =>
      intro i f4 H locs ls hi hF4 hkp hf hS hmeas hl
      have h_a0 := h_a0.kept (hkp a0 (fun z => by omega))
      refine lv_iload_n hx hb dX5_init_110 rfl (lv_at hl 0 rfl) ?_
      refine lv_aload_n hx hb dX5_init_111 rfl (lv_at hl 1 rfl) ?_
      refine va_get (D := D) (ci := 6) (v := .ref (q4)) (C := RX5) (T := TX5) (N := 17) hx hb hts qi_X5 hown hK (xP1 h_a0) 0 rfl rfl 6 (by decide) (hts _ q_fl_X5_19) (fun _ h9 => h9) rfl dX5_init_112 ?_
      refine va_alen hx hb hK (xP1 hF4) 0 0 rfl rfl (v := nI (81)) rfl dX5_init_115 ?_
      refine lv_icmp_ge (tgt := 148) hx hb dX5_init_116 (by decide) (fun c116 => ?_) (fun c116 => ?_)
      · have c116 : 81 ≤ i := (nI_leI (a := 81) (b := i) (by omega) (by omega)).mp c116
        have hiq4 : i = 81 := by omega
        have h_q1 := h_q1.kept (hkp _ (fun z => by omega))
        have h_q2 := h_q2.kept (hkp _ (fun z => by omega))
        have h_q3 := h_q3.kept (hkp _ (fun z => by omega))
        have h_q5 := h_q5.kept (hkp _ (fun z => by omega))
        have h_q6 := h_q6.kept (hkp _ (fun z => by omega))
        have h_q7 := h_q7.kept (hkp _ (fun z => by omega))
        have h_q8 := h_q8.kept (hkp _ (fun z => by omega))
        have h_q9 := h_q9.kept (hkp _ (fun z => by omega))
        have h_q10 := h_q10.kept (hkp _ (fun z => by omega))
        have h_q11 := h_q11.kept (hkp _ (fun z => by omega))
        have h_q12 := h_q12.kept (hkp _ (fun z => by omega))
        have h_q13 := h_q13.kept (hkp _ (fun z => by omega))
        have hf_q4 := hf
        rw [hiq4] at hf_q4
        have h_q4 := va_ci (f' := fun p => way0 p) hF4 hf_q4
        refine lv_iconst (v := nI 0) hx hb dX5_init_148 (by decide) ?_
        refine lv_istore_n (lv' := [(1, .int (nI 0)), (0, .ref (a0))]) hx hb dX5_init_149 rfl hl (by decide) rfl (fun ls hl => ?_)
        obtain ⟨HP7, hHP7⟩ : ∃ z, z = H := ⟨_, rfl⟩
        have h_q7e := h_q7
        have h_a0 := h_a0.kept (show HP7[a0]? = H[a0]? by rw [hHP7])
        have h_q1 := h_q1.kept (show HP7[q1]? = H[q1]? by rw [hHP7])
        have h_q2 := h_q2.kept (show HP7[q2]? = H[q2]? by rw [hHP7])
        have h_q3 := h_q3.kept (show HP7[q3]? = H[q3]? by rw [hHP7])
        have h_q4 := h_q4.kept (show HP7[q4]? = H[q4]? by rw [hHP7])
        have h_q5 := h_q5.kept (show HP7[q5]? = H[q5]? by rw [hHP7])
        have h_q6 := h_q6.kept (show HP7[q6]? = H[q6]? by rw [hHP7])
        have h_q7 := h_q7.kept (show HP7[q7]? = H[q7]? by rw [hHP7])
        have h_q8 := h_q8.kept (show HP7[q8]? = H[q8]? by rw [hHP7])
        have h_q9 := h_q9.kept (show HP7[q9]? = H[q9]? by rw [hHP7])
        have h_q10 := h_q10.kept (show HP7[q10]? = H[q10]? by rw [hHP7])
        have h_q11 := h_q11.kept (show HP7[q11]? = H[q11]? by rw [hHP7])
        have h_q12 := h_q12.kept (show HP7[q12]? = H[q12]? by rw [hHP7])
        have h_q13 := h_q13.kept (show HP7[q13]? = H[q13]? by rw [hHP7])
        have LOOP150 : ∀ (n150 : Nat) (i : Nat) (f7 : Nat → Int32) (H : Heap) (locs : List Loc) (ls : Array Slot), (i ≤ 48) → (va_at D vwCl (q7, .inl (cA 0, 48, .inl f7)) H) → (∀ q, q ≠ q7 → H[q]? = HP7[q]?) → (∀ p, p < i → f7 p = nI 100) → va_S A s.heap H locs → (48 - i) < n150 → lv_has ls 2 [(1, .int (nI (i))), (0, .ref (a0))] → W p l e (headSpec w_X5_init ({ frames := 1, cells := 13, slots := 2761, locals := 40 } : Room)).room s m ([.ref (a0)] : List Value).toArray below meth c H locs (((((((((((((0 + 1) + 1) + 1) + 1) + 1) + 1) + 1) + 1) + 1) + 1) + 1) + 1) + 1) (((((((((((((0 + 8) + 8) + 8) + 81) + 48) + 48) + 48) + 48) + 48) + 48) + 60) + 4) + 2304) (MQ below (xQv (fun h => ∃ b, yW D cA b g00 (fun _ => 0) 0 0 h ∧ yA A b 0 0 ∧ b 0 = a0) A) ([.ref (a0)] : List Value).toArray s 13 2761 (A)) (F0 m 150 ls []) := by
          intro n150
          induction n150 with
          | zero => intro i f7 H locs ls hi hF7 hkp hf hS hmeas hl; exact absurd hmeas (Nat.not_lt_zero _)
          | succ n150 ih150 =>
            intro i f7 H locs ls hi hF7 hkp hf hS hmeas hl
            have h_a0 := h_a0.kept (hkp a0 (fun z => by omega))
            refine lv_iload_n hx hb dX5_init_150 rfl (lv_at hl 0 rfl) ?_
            refine lv_aload_n hx hb dX5_init_151 rfl (lv_at hl 1 rfl) ?_
            refine va_get (D := D) (ci := 6) (v := .ref (q7)) (C := RX5) (T := TX5) (N := 17) hx hb hts qi_X5 hown hK (xP1 h_a0) 0 rfl rfl 9 (by decide) (hts _ q_fl_X5_28) (fun _ h9 => h9) rfl dX5_init_152 ?_
            refine va_alen hx hb hK (xP1 hF7) 0 0 rfl rfl (v := nI (48)) rfl dX5_init_155 ?_
            refine lv_icmp_ge (tgt := 173) hx hb dX5_init_156 (by decide) (fun c156 => ?_) (fun c156 => ?_)
            · have c156 : 48 ≤ i := (nI_leI (a := 48) (b := i) (by omega) (by omega)).mp c156
              have hiq7 : i = 48 := by omega
              have h_q1 := h_q1.kept (hkp _ (fun z => by omega))
              have h_q2 := h_q2.kept (hkp _ (fun z => by omega))
              have h_q3 := h_q3.kept (hkp _ (fun z => by omega))
              have h_q4 := h_q4.kept (hkp _ (fun z => by omega))
              have h_q5 := h_q5.kept (hkp _ (fun z => by omega))
              have h_q6 := h_q6.kept (hkp _ (fun z => by omega))
              have h_q8 := h_q8.kept (hkp _ (fun z => by omega))
              have h_q9 := h_q9.kept (hkp _ (fun z => by omega))
              have h_q10 := h_q10.kept (hkp _ (fun z => by omega))
              have h_q11 := h_q11.kept (hkp _ (fun z => by omega))
              have h_q12 := h_q12.kept (hkp _ (fun z => by omega))
              have h_q13 := h_q13.kept (hkp _ (fun z => by omega))
              have hf_q7 := hf
              rw [hiq7] at hf_q7
              have h_q7 := va_ci (f' := fun p => nI 100) hF7 hf_q7
              have hpost : (fun h => ∃ b, yW D cA b g00 (fun _ => 0) 0 0 h ∧ yA A b 0 0 ∧ b 0 = a0) H := by
                refine ⟨(fun j => [a0, q1, q2, q3, q4, q5, q6, q7, q8, q9, q10, q11, q12, q13].getD j 0), y14 h_a0 h_q1 h_q2 h_q3 h_q4 h_q5 h_q6 h_q7 h_q8 h_q9 h_q10 h_q11 h_q12 h_q13, ⟨inc_inj ?_, ?_, Nat.zero_le _, Nat.zero_le _⟩, rfl⟩
                · intro i hi
                  rcases (show i = 0 ∨ i = 1 ∨ i = 2 ∨ i = 3 ∨ i = 4 ∨ i = 5 ∨ i = 6 ∨ i = 7 ∨ i = 8 ∨ i = 9 ∨ i = 10 ∨ i = 11 ∨ i = 12 by omega) with rfl | rfl | rfl | rfl | rfl | rfl | rfl | rfl | rfl | rfl | rfl | rfl | rfl
                  · exact l_q1
                  · exact l_q2
                  · exact l_q3
                  · exact l_q4
                  · exact l_q5
                  · exact l_q6
                  · exact l_q7
                  · exact l_q8
                  · exact l_q9
                  · exact l_q10
                  · exact l_q11
                  · exact l_q12
                  · exact l_q13
                · exact y14 hAa (hAn _ hA_q1) (hAn _ hA_q2) (hAn _ hA_q3) (hAn _ hA_q4) (hAn _ hA_q5) (hAn _ hA_q6) (hAn _ hA_q7) (hAn _ hA_q8) (hAn _ hA_q9) (hAn _ hA_q10) (hAn _ hA_q11) (hAn _ hA_q12) (hAn _ hA_q13)
              refine W.widen (k := 13) (n := 2761) (by omega) (by omega) ?_
              exact W.vret hx hb hr (fun t ht _ => ⟨⟨H, rfl, hpost, ht⟩, hS.F ht⟩) hS.2.2 dX5_init_173
            · have c156 : ¬ (48 ≤ i) := fun z => c156 ((nI_leI (a := 48) (b := i) (by omega) (by omega)).mpr z)
              refine lv_aload_n hx hb dX5_init_159 rfl (lv_at hl 1 rfl) ?_
              refine va_get (D := D) (ci := 6) (v := .ref (q7)) (C := RX5) (T := TX5) (N := 17) hx hb hts qi_X5 hown hK (xP1 h_a0) 0 rfl rfl 9 (by decide) (hts _ q_fl_X5_28) (fun _ h9 => h9) rfl dX5_init_160 ?_
              refine lv_iload_n hx hb dX5_init_163 rfl (lv_at hl 0 rfl) ?_
              refine lv_bipush (v := nI 100) hx hb dX5_init_164 (by decide) ?_
              refine xiast (D := D) hx hb hK hS 0 hF7 (hAn _ hA_q7) rfl (i := nI (i)) (x := nI 100) (vp_in_nI (n := i) (by omega) (by omega)) dX5_init_166 (fun H27 locs hU hS => ?_)
              rw [nI_clamp (n := i) (by omega)] at hU
              have hF7 := hU.1
              have hkp := fun q (hq : q ≠ q7) => (hU.2.2 q hq).trans (hkp q hq)
              refine lv_iinc (v := nI (i + 1)) (lv' := [(1, .int (nI (i + 1))), (0, .ref (a0))]) hx hb dX5_init_167 hl (k := 0) rfl (nI_add i 1) (by decide) rfl (fun ls hl => ?_)
              refine lv_goto (tgt := 150) hx hb dX5_init_170 (by decide) ?_
              exact ih150 (i + 1) (upd f7 i (nI 100)) H27 locs _ (by omega) hF7 hkp (fun p hp => by
                  by_cases hpi : p = i
                  · rw [hpi, upd_eq]
                  · rw [upd_ne hpi]
                    exact hf p (by omega)) hS (by omega) (lv_sub hl [0, 1] rfl)
        exact LOOP150 _ 0 (fun _ => 0) H locs _ (by omega) h_q7e (fun _ _ => by rw [hHP7]) (fun p h => absurd h (Nat.not_lt_zero _)) hS (Nat.lt_succ_self _) (lv_sub hl [0, 1] rfl)
      · have c116 : ¬ (81 ≤ i) := fun z => c116 ((nI_leI (a := 81) (b := i) (by omega) (by omega)).mpr z)
        refine lv_aload_n hx hb dX5_init_119 rfl (lv_at hl 1 rfl) ?_
        refine va_get (D := D) (ci := 6) (v := .ref (q4)) (C := RX5) (T := TX5) (N := 17) hx hb hts qi_X5 hown hK (xP1 h_a0) 0 rfl rfl 6 (by decide) (hts _ q_fl_X5_19) (fun _ h9 => h9) rfl dX5_init_120 ?_
        refine lv_iload_n hx hb dX5_init_123 rfl (lv_at hl 0 rfl) ?_
        refine lv_iload_n hx hb dX5_init_124 rfl (lv_at hl 0 rfl) ?_
        refine lv_bipush (v := nI 9) hx hb dX5_init_125 (by decide) ?_
        refine lv_idiv hx hb dX5_init_127 (by decide) ?_
        refine xtop (show ((nI (i)) / (nI 9)) = nI (i / 9) from dv9 i (by omega)) ?_
        refine lv_iload_n hx hb dX5_init_128 rfl (lv_at hl 0 rfl) ?_
        refine lv_bipush (v := nI 9) hx hb dX5_init_129 (by decide) ?_
        refine lv_irem hx hb dX5_init_131 (by decide) ?_
        refine xtop (show ((nI (i)) - (nI (i)) / (nI 9) * (nI 9)) = nI (i % 9) from rm9 i (by omega)) ?_
        refine lv_icmp_ne (tgt := 139) hx hb dX5_init_132 (by decide) (fun c132 => ?_) (fun c132 => ?_)
        · have c132 : ¬ ((i / 9) = (i % 9)) := fun z => c132 ((nI_eq (a := i / 9) (b := i % 9) (by omega) (by omega)).mpr z)
          refine lv_bipush (v := nI 20) hx hb dX5_init_139 (by decide) ?_
          refine xiast (D := D) hx hb hK hS 0 hF4 (hAn _ hA_q4) rfl (i := nI (i)) (x := nI 20) (vp_in_nI (n := i) (by omega) (by omega)) dX5_init_141 (fun H28 locs hU hS => ?_)
          rw [nI_clamp (n := i) (by omega)] at hU
          have hF4 := hU.1
          have hkp := fun q (hq : q ≠ q4) => (hU.2.2 q hq).trans (hkp q hq)
          refine lv_iinc (v := nI (i + 1)) (lv' := [(1, .int (nI (i + 1))), (0, .ref (a0))]) hx hb dX5_init_142 hl (k := 0) rfl (nI_add i 1) (by decide) rfl (fun ls hl => ?_)
          refine lv_goto (tgt := 110) hx hb dX5_init_145 (by decide) ?_
          exact ih110 (i + 1) (upd f4 i (nI 20)) H28 locs _ (by omega) hF4 hkp (fun p hp => by
              by_cases hpi : p = i
              · rw [hpi, upd_eq]
                exact (if_neg c132).symm
              · rw [upd_ne hpi]
                exact hf p (by omega)) hS (by omega) (lv_sub hl [0, 1] rfl)
        · have c132 : (i / 9) = (i % 9) := (nI_eq (a := i / 9) (b := i % 9) (by omega) (by omega)).mp c132
          refine lv_iconst (v := nI 0) hx hb dX5_init_135 (by decide) ?_
          refine lv_goto (tgt := 141) hx hb dX5_init_136 (by decide) ?_
          refine xiast (D := D) hx hb hK hS 0 hF4 (hAn _ hA_q4) rfl (i := nI (i)) (x := nI 0) (vp_in_nI (n := i) (by omega) (by omega)) dX5_init_141 (fun H29 locs hU hS => ?_)
          rw [nI_clamp (n := i) (by omega)] at hU
          have hF4 := hU.1
          have hkp := fun q (hq : q ≠ q4) => (hU.2.2 q hq).trans (hkp q hq)
          refine lv_iinc (v := nI (i + 1)) (lv' := [(1, .int (nI (i + 1))), (0, .ref (a0))]) hx hb dX5_init_142 hl (k := 0) rfl (nI_add i 1) (by decide) rfl (fun ls hl => ?_)
          refine lv_goto (tgt := 110) hx hb dX5_init_145 (by decide) ?_
          exact ih110 (i + 1) (upd f4 i (nI 0)) H29 locs _ (by omega) hF4 hkp (fun p hp => by
              by_cases hpi : p = i
              · rw [hpi, upd_eq]
                exact (if_pos c132).symm
              · rw [upd_ne hpi]
                exact hf p (by omega)) hS (by omega) (lv_sub hl [0, 1] rfl)
  exact LOOP110 _ 0 (fun _ => 0) H26 locs _ (by omega) h_q4e (fun _ _ => by rw [hHP4]) (fun p h => absurd h (Nat.not_lt_zero _)) hS (Nat.lt_succ_self _) (lv_sub hl [0, 1] rfl)
