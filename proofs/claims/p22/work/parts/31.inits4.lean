/-! The object itself is made (by p31.py) -/
theorem va_ci {D : va_G} {q n : Nat} {c : ClassId} {f f' : Nat → Int32} {H : Heap} (h : va_at D vwCl (q, .inl (c, n, .inl f)) H) (e : ∀ j, j < n → f j = f' j) : va_at D vwCl (q, .inl (c, n, .inl f')) H := by
  have h1 : H[q]? = some (arrV c n (fun j => .int (f j))) := h
  show H[q]? = some (arrV c n (fun j => .int (f' j)))
  rw [h1, arrV_c (fun j hj => by rw [e j hj])]
def g00 (t k : Nat) : Int32 := if t = 3 then way0 k else if t = 6 then nI 100 else 0
def ad0 (e0 : Nat) (L : List Nat) (c j : Nat) : Nat := if c = 0 then L.getD j e0 else e0
def n00 (_ : Nat) : Nat := 0
theorem xV00 {c j : Nat} (h : xV n00 c j) : c = 0 ∧ j < 9 := by
  unfold xV n00 at h
  omega
set_option maxHeartbeats 4000000 in
set_option maxRecDepth 100000 in
/-- VendingRounds.<init>() -/
theorem c_X4_init (l : Launch) (D : va_G) (cA : Nat → ClassId) (e0 : Nat) (A : Nat → Prop) (H0 : Heap) (a0 : Nat) (h_a0 : va_at D vwCl (a0, .inr (5, [.null, .null, .null, .null, .null, .null, .int 0, .long 0, .long 0, .long 0, .long 0])) H0) (hAa : A a0) (hAn : ∀ q, H0.size ≤ q → A q) : Met l yX4_init w_X4_init ({ frames := 4, cells := 8, slots := 2161, locals := 100 } : Room) (xPc D cA e0 A H0 [.ref (a0)]) (xQv (fun h => ∃ ad, xW D cA ad g00 (fun _ => 0) n00 h ∧ xA A e0 ad n00 ∧ ad 0 0 = a0) A) 8 2161 (A) := by
  refine Met.ofW (cc := cX4_init) (maxL := 1) (ret := none) (by decide) rfl ?_
  intro p e s m args below meth c s₁ B hml hv
  obtain ⟨rfl, hH, hE⟩ := hv
  subst hH
  have hx := B.exec
  have hb := B.bytes
  have hr := B.returns
  have hts := hE.1.all ([.ref (a0)] : List Value).toArray
  have hown : s.vm.findClass RX4 = some m.cls := findClass_of_methodNamed B.named
  have hlocks := B.notSynchronized
  have hin : meth.name = "<init>" := (name_of_methodNamed B.named B.method).1
  have hK := hE.2.1
  have hS : va_S A s.heap s.heap [] := va_S.rf
  have hl := lv_entry ([.ref (a0)]) (n := 1) (Nat.le_of_ble_eq_true rfl)
  rw [lg_entry_eq]
  generalize (lg_sl ([.ref (a0)]) ++ List.replicate (1 - (lg_sl ([.ref (a0)])).length) Slot.unset).toArray = ls at hl ⊢
  have hl : lv_has ls 1 [(0, .ref (a0))] := hl
  have hS0 := hS
  refine lv_aload_n hx hb dX4_init_0 rfl (lv_at hl 0 rfl) ?_
  refine W.objInit hx hb hown (hts _ q_ml_X4_1) (hts _ q_im_java_lang_Object__init_) (hts _ q_co_obj) rfl (by rw [hml]; exact hl.1) rfl dX4_init_1 (Nat.le_of_ble_eq_true rfl) (Nat.le_of_ble_eq_true rfl) ?_
  refine W.eq (g2 := F0 m 4 ls []) rfl ?_
  refine lv_aload_n hx hb dX4_init_4 rfl (lv_at hl 0 rfl) ?_
  have hS0 := hS
  refine xnew (D := D) (ci := 0) (fs := [.int 0, .null, .int 0]) (C := RJx4a65c) (T := TJx4a65c) (N := 3) hx hb hts qi_Jx4a65c tyJx4a65c tyJx4a65c_ok hown (hts _ q_cl_X4_7) (hts _ q_mk_Jx4a65c) (hts _ q_ini_Jx4a65c) hK hS rfl (fun j hj => by rcases (show j = 0 ∨ j = 1 ∨ j = 2 by omega) with rfl | rfl | rfl <;> rfl) (Nat.le_of_ble_eq_true rfl) (Nat.le_of_ble_eq_true rfl) dX4_init_5 (fun q1 H1 hN hS => ?_)
  obtain ⟨q1, hzq1⟩ : ∃ z, z = q1 := ⟨_, rfl⟩
  rw [← hzq1] at hN ⊢
  have hA_q1 : s.heap.size ≤ q1 := by
    have h9 := hS0.1
    have := hN.2.1
    omega
  have l_a0_q1 : a0 < q1 := by
    have h9 := h_a0.lt
    have := hN.2.1
    omega
  have h_a0 := h_a0.kept (hN.2.2.2 _ h_a0.lt)
  have h_q1 := hN.1
  refine lv_dup hx hb dX4_init_8 rfl ?_
  refine xcv (va_runI (As := []) (rest := [.ref (q1), .ref (a0)]) ⟨hx, hb, hml, hown, hts⟩ (c_Jx4a65c_init_da8c8 l D cA e0 (fun q => q = q1) H1 q1 h_q1 rfl) ⟨(callB_of 0 hts gi_Jx4a65c_init_da8c8 rfl rfl rfl (hts _ q_ini_Jx4a65c) (hts _ q_ml_X4_9) hd_Jx4a65c_init_da8c8 ⟨Nat.le_of_ble_eq_true rfl, Nat.le_of_ble_eq_true rfl⟩), rfl, hts _ q_im_Jx4a65c_init_da8c8⟩ (xpSn hE hS (fun q z => z ▸ hAn _ hA_q1)) rfl rfl hl.1 rfl (lv_room (Nat.le_of_ble_eq_true rfl)) dX4_init_9 ⟨Nat.le_of_ble_eq_true rfl, Nat.le_of_ble_eq_true rfl⟩) hS (fun q z => z ▸ hAn _ hA_q1) (fun H2 locs hP9 hz9 hk9 hS => ?_)
  have h_a0 := h_a0.kept (hk9 _ h_a0.lt (fun (z : a0 = q1) => by omega))
  have h_q1 := hP9
  have hS0 := hS
  refine xputF (D := D) (ci := 5) (v := .ref (q1)) (C := RX4) (T := TX4) (N := 11) hx hb hts qi_X4 tyX4 tyX4_ok nmX4 hown hK hS h_a0 hAa rfl 0 (by decide) (hts _ q_fl_X4_10) (fun _ h9 => h9) rfl hin rfl (tyX4_ok 0 (by decide)) rfl rfl (Nat.le_of_ble_eq_true rfl) dX4_init_12 (fun H3 locs hU hS => ?_)
  have h_q1 := h_q1.kept (hU.2.2 _ (fun z => by omega))
  have h_a0 := hU.1
  refine lv_aload_n hx hb dX4_init_15 rfl (lv_at hl 0 rfl) ?_
  have hS0 := hS
  refine xnew (D := D) (ci := 0) (fs := [.int 0, .null, .int 0]) (C := RJx4a65c) (T := TJx4a65c) (N := 3) hx hb hts qi_Jx4a65c tyJx4a65c tyJx4a65c_ok hown (hts _ q_cl_X4_7) (hts _ q_mk_Jx4a65c) (hts _ q_ini_Jx4a65c) hK hS rfl (fun j hj => by rcases (show j = 0 ∨ j = 1 ∨ j = 2 by omega) with rfl | rfl | rfl <;> rfl) (Nat.le_of_ble_eq_true rfl) (Nat.le_of_ble_eq_true rfl) dX4_init_16 (fun q4 H4 hN hS => ?_)
  obtain ⟨q2, hzq2⟩ : ∃ z, z = q4 := ⟨_, rfl⟩
  rw [← hzq2] at hN ⊢
  have hA_q2 : s.heap.size ≤ q2 := by
    have h9 := hS0.1
    have := hN.2.1
    omega
  have l_a0_q2 : a0 < q2 := by
    have h9 := h_a0.lt
    have := hN.2.1
    omega
  have l_q1_q2 : q1 < q2 := by
    have h9 := h_q1.lt
    have := hN.2.1
    omega
  have h_a0 := h_a0.kept (hN.2.2.2 _ h_a0.lt)
  have h_q1 := h_q1.kept (hN.2.2.2 _ h_q1.lt)
  have h_q2 := hN.1
  refine lv_dup hx hb dX4_init_19 rfl ?_
  refine xcv (va_runI (As := []) (rest := [.ref (q2), .ref (a0)]) ⟨hx, hb, hml, hown, hts⟩ (c_Jx4a65c_init_da8c8 l D cA e0 (fun q => q = q2) H4 q2 h_q2 rfl) ⟨(callB_of 0 hts gi_Jx4a65c_init_da8c8 rfl rfl rfl (hts _ q_ini_Jx4a65c) (hts _ q_ml_X4_9) hd_Jx4a65c_init_da8c8 ⟨Nat.le_of_ble_eq_true rfl, Nat.le_of_ble_eq_true rfl⟩), rfl, hts _ q_im_Jx4a65c_init_da8c8⟩ (xpSn hE hS (fun q z => z ▸ hAn _ hA_q2)) rfl rfl hl.1 rfl (lv_room (Nat.le_of_ble_eq_true rfl)) dX4_init_20 ⟨Nat.le_of_ble_eq_true rfl, Nat.le_of_ble_eq_true rfl⟩) hS (fun q z => z ▸ hAn _ hA_q2) (fun H5 locs hP9 hz9 hk9 hS => ?_)
  have h_a0 := h_a0.kept (hk9 _ h_a0.lt (fun (z : a0 = q2) => by omega))
  have h_q1 := h_q1.kept (hk9 _ h_q1.lt (fun (z : q1 = q2) => by omega))
  have h_q2 := hP9
  have hS0 := hS
  refine xputF (D := D) (ci := 5) (v := .ref (q2)) (C := RX4) (T := TX4) (N := 11) hx hb hts qi_X4 tyX4 tyX4_ok nmX4 hown hK hS h_a0 hAa rfl 1 (by decide) (hts _ q_fl_X4_16) (fun _ h9 => h9) rfl hin rfl (tyX4_ok 1 (by decide)) rfl rfl (Nat.le_of_ble_eq_true rfl) dX4_init_23 (fun H6 locs hU hS => ?_)
  have h_q1 := h_q1.kept (hU.2.2 _ (fun z => by omega))
  have h_q2 := h_q2.kept (hU.2.2 _ (fun z => by omega))
  have h_a0 := hU.1
  refine lv_aload_n hx hb dX4_init_26 rfl (lv_at hl 0 rfl) ?_
  have hS0 := hS
  refine xnew (D := D) (ci := 3) (fs := [.null, .null]) (C := RX2) (T := TX2) (N := 2) hx hb hts qi_X2 tyX2 tyX2_ok hown (hts _ q_cl_X4_19) (hts _ q_mk_X2) (hts _ q_ini_X2) hK hS rfl (fun j hj => by rcases (show j = 0 ∨ j = 1 by omega) with rfl | rfl <;> rfl) (Nat.le_of_ble_eq_true rfl) (Nat.le_of_ble_eq_true rfl) dX4_init_27 (fun q7 H7 hN hS => ?_)
  obtain ⟨q3, hzq3⟩ : ∃ z, z = q7 := ⟨_, rfl⟩
  rw [← hzq3] at hN ⊢
  have hA_q3 : s.heap.size ≤ q3 := by
    have h9 := hS0.1
    have := hN.2.1
    omega
  have l_a0_q3 : a0 < q3 := by
    have h9 := h_a0.lt
    have := hN.2.1
    omega
  have l_q1_q3 : q1 < q3 := by
    have h9 := h_q1.lt
    have := hN.2.1
    omega
  have l_q2_q3 : q2 < q3 := by
    have h9 := h_q2.lt
    have := hN.2.1
    omega
  have h_a0 := h_a0.kept (hN.2.2.2 _ h_a0.lt)
  have h_q1 := h_q1.kept (hN.2.2.2 _ h_q1.lt)
  have h_q2 := h_q2.kept (hN.2.2.2 _ h_q2.lt)
  have h_q3 := hN.1
  refine lv_dup hx hb dX4_init_30 rfl ?_
  have hla0 := h_a0.lt
  have hlq1 := h_q1.lt
  have hlq2 := h_q2.lt
  have hlq3 := h_q3.lt
  have hFr : ∀ q, (q = q3 ∨ H7.size ≤ q) → A q := fun q z => z.elim (fun z => z ▸ hAn _ hA_q3) (fun z => hAn q (by have := hS.1; omega))
  refine xcv (va_runI (As := []) (rest := [.ref (q3), .ref (a0)]) ⟨hx, hb, hml, hown, hts⟩ (c_X2_init l D cA e0 (fun q => q = q3 ∨ H7.size ≤ q) H7 q3 h_q3 (Or.inl rfl) (fun q h => Or.inr h)) ⟨(callB_of 0 hts gi_X2_init rfl rfl rfl (hts _ q_ini_X2) (hts _ q_ml_X4_21) hd_X2_init ⟨Nat.le_of_ble_eq_true rfl, Nat.le_of_ble_eq_true rfl⟩), rfl, hts _ q_im_X2_init⟩ (xpSn hE hS hFr) rfl rfl hl.1 rfl (lv_room (Nat.le_of_ble_eq_true rfl)) dX4_init_31 ⟨Nat.le_of_ble_eq_true rfl, Nat.le_of_ble_eq_true rfl⟩) hS hFr (fun H8 locs hP9 hz9 hk9 hS => ?_)
  have h_a0 := h_a0.kept (hk9 _ h_a0.lt (fun z => z.elim (fun (z : a0 = q3) => by omega) (fun z => absurd h_a0.lt (by omega))))
  have h_q1 := h_q1.kept (hk9 _ h_q1.lt (fun z => z.elim (fun (z : q1 = q3) => by omega) (fun z => absurd h_q1.lt (by omega))))
  have h_q2 := h_q2.kept (hk9 _ h_q2.lt (fun z => z.elim (fun (z : q2 = q3) => by omega) (fun z => absurd h_q2.lt (by omega))))
  obtain ⟨mi, hw, h_q3, ⟨fw, h_mi, hfw⟩, h_hw, hmh, zmi, zhw⟩ := hP9
  have hS0 := hS
  have l_a0_mi : a0 < mi := by have := hla0; omega
  have l_a0_hw : a0 < hw := by have := hla0; omega
  have l_q1_mi : q1 < mi := by have := hlq1; omega
  have l_q1_hw : q1 < hw := by have := hlq1; omega
  have l_q2_mi : q2 < mi := by have := hlq2; omega
  have l_q2_hw : q2 < hw := by have := hlq2; omega
  have l_q3_mi : q3 < mi := by have := hlq3; omega
  have l_q3_hw : q3 < hw := by have := hlq3; omega
  have hA_mi : s.heap.size ≤ mi := by have := hA_q3; omega
  have hA_hw : s.heap.size ≤ hw := by have := hA_q3; omega
  refine xputF (D := D) (ci := 5) (v := .ref (q3)) (C := RX4) (T := TX4) (N := 11) hx hb hts qi_X4 tyX4 tyX4_ok nmX4 hown hK hS h_a0 hAa rfl 2 (by decide) (hts _ q_fl_X4_22) (fun _ h9 => h9) rfl hin rfl (tyX4_ok 2 (by decide)) rfl rfl (Nat.le_of_ble_eq_true rfl) dX4_init_34 (fun H9 locs hU hS => ?_)
  have h_q1 := h_q1.kept (hU.2.2 _ (fun z => by omega))
  have h_q2 := h_q2.kept (hU.2.2 _ (fun z => by omega))
  have h_q3 := h_q3.kept (hU.2.2 _ (fun z => by omega))
  have h_mi := h_mi.kept (hU.2.2 _ (fun z => by omega))
  have h_hw := h_hw.kept (hU.2.2 _ (fun z => by omega))
  have h_a0 := hU.1
  refine lv_aload_n hx hb dX4_init_37 rfl (lv_at hl 0 rfl) ?_
  refine lv_bipush (v := nI 8) hx hb dX4_init_38 (by decide) ?_
  have hS0 := hS
  refine xnewa (D := D) (atype := .int) (a0 := (8, .inl (fun _ => 0))) hx hb (hts _ q_ac_int) rfl (Or.inl rfl) hK hS 0 rfl (fun _ => rfl) (nI_pos (by omega)) (nI_clamp (n := 8) (by omega)) (Nat.le_of_ble_eq_true rfl) (Nat.le_of_ble_eq_true rfl) (Nat.le_of_ble_eq_true rfl) dX4_init_40 (fun q10 H10 hN hS => ?_)
  obtain ⟨q4, hzq4⟩ : ∃ z, z = q10 := ⟨_, rfl⟩
  rw [← hzq4] at hN ⊢
  have hA_q4 : s.heap.size ≤ q4 := by
    have h9 := hS0.1
    have := hN.2.1
    omega
  have l_a0_q4 : a0 < q4 := by
    have h9 := h_a0.lt
    have := hN.2.1
    omega
  have l_q1_q4 : q1 < q4 := by
    have h9 := h_q1.lt
    have := hN.2.1
    omega
  have l_q2_q4 : q2 < q4 := by
    have h9 := h_q2.lt
    have := hN.2.1
    omega
  have l_q3_q4 : q3 < q4 := by
    have h9 := h_q3.lt
    have := hN.2.1
    omega
  have l_mi_q4 : mi < q4 := by
    have h9 := h_mi.lt
    have := hN.2.1
    omega
  have l_hw_q4 : hw < q4 := by
    have h9 := h_hw.lt
    have := hN.2.1
    omega
  have h_a0 := h_a0.kept (hN.2.2.2 _ h_a0.lt)
  have h_q1 := h_q1.kept (hN.2.2.2 _ h_q1.lt)
  have h_q2 := h_q2.kept (hN.2.2.2 _ h_q2.lt)
  have h_q3 := h_q3.kept (hN.2.2.2 _ h_q3.lt)
  have h_mi := h_mi.kept (hN.2.2.2 _ h_mi.lt)
  have h_hw := h_hw.kept (hN.2.2.2 _ h_hw.lt)
  have h_q4 := hN.1
  refine xputF (D := D) (ci := 5) (v := .ref (q4)) (C := RX4) (T := TX4) (N := 11) hx hb hts qi_X4 tyX4 tyX4_ok nmX4 hown hK hS h_a0 hAa rfl 3 (by decide) (hts _ q_fl_X4_26) (fun _ h9 => h9) rfl hin rfl (tyX4_ok 3 (by decide)) rfl rfl (Nat.le_of_ble_eq_true rfl) dX4_init_42 (fun H11 locs hU hS => ?_)
  have h_q1 := h_q1.kept (hU.2.2 _ (fun z => by omega))
  have h_q2 := h_q2.kept (hU.2.2 _ (fun z => by omega))
  have h_q3 := h_q3.kept (hU.2.2 _ (fun z => by omega))
  have h_mi := h_mi.kept (hU.2.2 _ (fun z => by omega))
  have h_hw := h_hw.kept (hU.2.2 _ (fun z => by omega))
  have h_q4 := h_q4.kept (hU.2.2 _ (fun z => by omega))
  have h_a0 := hU.1
  refine lv_aload_n hx hb dX4_init_45 rfl (lv_at hl 0 rfl) ?_
  refine lv_bipush (v := nI 8) hx hb dX4_init_46 (by decide) ?_
  have hS0 := hS
  refine xnewa (D := D) (atype := .int) (a0 := (8, .inl (fun _ => 0))) hx hb (hts _ q_ac_int) rfl (Or.inl rfl) hK hS 0 rfl (fun _ => rfl) (nI_pos (by omega)) (nI_clamp (n := 8) (by omega)) (Nat.le_of_ble_eq_true rfl) (Nat.le_of_ble_eq_true rfl) (Nat.le_of_ble_eq_true rfl) dX4_init_48 (fun q12 H12 hN hS => ?_)
  obtain ⟨q5, hzq5⟩ : ∃ z, z = q12 := ⟨_, rfl⟩
  rw [← hzq5] at hN ⊢
  have hA_q5 : s.heap.size ≤ q5 := by
    have h9 := hS0.1
    have := hN.2.1
    omega
  have l_a0_q5 : a0 < q5 := by
    have h9 := h_a0.lt
    have := hN.2.1
    omega
  have l_q1_q5 : q1 < q5 := by
    have h9 := h_q1.lt
    have := hN.2.1
    omega
  have l_q2_q5 : q2 < q5 := by
    have h9 := h_q2.lt
    have := hN.2.1
    omega
  have l_q3_q5 : q3 < q5 := by
    have h9 := h_q3.lt
    have := hN.2.1
    omega
  have l_mi_q5 : mi < q5 := by
    have h9 := h_mi.lt
    have := hN.2.1
    omega
  have l_hw_q5 : hw < q5 := by
    have h9 := h_hw.lt
    have := hN.2.1
    omega
  have l_q4_q5 : q4 < q5 := by
    have h9 := h_q4.lt
    have := hN.2.1
    omega
  have h_a0 := h_a0.kept (hN.2.2.2 _ h_a0.lt)
  have h_q1 := h_q1.kept (hN.2.2.2 _ h_q1.lt)
  have h_q2 := h_q2.kept (hN.2.2.2 _ h_q2.lt)
  have h_q3 := h_q3.kept (hN.2.2.2 _ h_q3.lt)
  have h_mi := h_mi.kept (hN.2.2.2 _ h_mi.lt)
  have h_hw := h_hw.kept (hN.2.2.2 _ h_hw.lt)
  have h_q4 := h_q4.kept (hN.2.2.2 _ h_q4.lt)
  have h_q5 := hN.1
  refine xputF (D := D) (ci := 5) (v := .ref (q5)) (C := RX4) (T := TX4) (N := 11) hx hb hts qi_X4 tyX4 tyX4_ok nmX4 hown hK hS h_a0 hAa rfl 4 (by decide) (hts _ q_fl_X4_30) (fun _ h9 => h9) rfl hin rfl (tyX4_ok 4 (by decide)) rfl rfl (Nat.le_of_ble_eq_true rfl) dX4_init_50 (fun H13 locs hU hS => ?_)
  have h_q1 := h_q1.kept (hU.2.2 _ (fun z => by omega))
  have h_q2 := h_q2.kept (hU.2.2 _ (fun z => by omega))
  have h_q3 := h_q3.kept (hU.2.2 _ (fun z => by omega))
  have h_mi := h_mi.kept (hU.2.2 _ (fun z => by omega))
  have h_hw := h_hw.kept (hU.2.2 _ (fun z => by omega))
  have h_q4 := h_q4.kept (hU.2.2 _ (fun z => by omega))
  have h_q5 := h_q5.kept (hU.2.2 _ (fun z => by omega))
  have h_a0 := hU.1
  refine lv_aload_n hx hb dX4_init_53 rfl (lv_at hl 0 rfl) ?_
  refine lv_bipush (v := nI 8) hx hb dX4_init_54 (by decide) ?_
  have hS0 := hS
  refine xnewa (D := D) (atype := .int) (a0 := (8, .inl (fun _ => 0))) hx hb (hts _ q_ac_int) rfl (Or.inl rfl) hK hS 0 rfl (fun _ => rfl) (nI_pos (by omega)) (nI_clamp (n := 8) (by omega)) (Nat.le_of_ble_eq_true rfl) (Nat.le_of_ble_eq_true rfl) (Nat.le_of_ble_eq_true rfl) dX4_init_56 (fun q14 H14 hN hS => ?_)
  obtain ⟨q6, hzq6⟩ : ∃ z, z = q14 := ⟨_, rfl⟩
  rw [← hzq6] at hN ⊢
  have hA_q6 : s.heap.size ≤ q6 := by
    have h9 := hS0.1
    have := hN.2.1
    omega
  have l_a0_q6 : a0 < q6 := by
    have h9 := h_a0.lt
    have := hN.2.1
    omega
  have l_q1_q6 : q1 < q6 := by
    have h9 := h_q1.lt
    have := hN.2.1
    omega
  have l_q2_q6 : q2 < q6 := by
    have h9 := h_q2.lt
    have := hN.2.1
    omega
  have l_q3_q6 : q3 < q6 := by
    have h9 := h_q3.lt
    have := hN.2.1
    omega
  have l_mi_q6 : mi < q6 := by
    have h9 := h_mi.lt
    have := hN.2.1
    omega
  have l_hw_q6 : hw < q6 := by
    have h9 := h_hw.lt
    have := hN.2.1
    omega
  have l_q4_q6 : q4 < q6 := by
    have h9 := h_q4.lt
    have := hN.2.1
    omega
  have l_q5_q6 : q5 < q6 := by
    have h9 := h_q5.lt
    have := hN.2.1
    omega
  have h_a0 := h_a0.kept (hN.2.2.2 _ h_a0.lt)
  have h_q1 := h_q1.kept (hN.2.2.2 _ h_q1.lt)
  have h_q2 := h_q2.kept (hN.2.2.2 _ h_q2.lt)
  have h_q3 := h_q3.kept (hN.2.2.2 _ h_q3.lt)
  have h_mi := h_mi.kept (hN.2.2.2 _ h_mi.lt)
  have h_hw := h_hw.kept (hN.2.2.2 _ h_hw.lt)
  have h_q4 := h_q4.kept (hN.2.2.2 _ h_q4.lt)
  have h_q5 := h_q5.kept (hN.2.2.2 _ h_q5.lt)
  have h_q6 := hN.1
  refine xputF (D := D) (ci := 5) (v := .ref (q6)) (C := RX4) (T := TX4) (N := 11) hx hb hts qi_X4 tyX4 tyX4_ok nmX4 hown hK hS h_a0 hAa rfl 5 (by decide) (hts _ q_fl_X4_33) (fun _ h9 => h9) rfl hin rfl (tyX4_ok 5 (by decide)) rfl rfl (Nat.le_of_ble_eq_true rfl) dX4_init_58 (fun H15 locs hU hS => ?_)
  have h_q1 := h_q1.kept (hU.2.2 _ (fun z => by omega))
  have h_q2 := h_q2.kept (hU.2.2 _ (fun z => by omega))
  have h_q3 := h_q3.kept (hU.2.2 _ (fun z => by omega))
  have h_mi := h_mi.kept (hU.2.2 _ (fun z => by omega))
  have h_hw := h_hw.kept (hU.2.2 _ (fun z => by omega))
  have h_q4 := h_q4.kept (hU.2.2 _ (fun z => by omega))
  have h_q5 := h_q5.kept (hU.2.2 _ (fun z => by omega))
  have h_q6 := h_q6.kept (hU.2.2 _ (fun z => by omega))
  have h_a0 := hU.1
  have hpost : (fun h => ∃ ad, xW D cA ad g00 (fun _ => 0) n00 h ∧ xA A e0 ad n00 ∧ ad 0 0 = a0) H15 := by
    refine ⟨(ad0 e0 [a0, q1, q2, q3, q4, q5, q6, mi, hw]), ?_, ?_, rfl⟩
    · intro c j hv
      obtain ⟨rfl, hj⟩ := xV00 hv
      rcases (show j = 0 ∨ j = 1 ∨ j = 2 ∨ j = 3 ∨ j = 4 ∨ j = 5 ∨ j = 6 ∨ j = 7 ∨ j = 8 by omega) with rfl | rfl | rfl | rfl | rfl | rfl | rfl | rfl | rfl
      · exact h_a0
      · exact h_q1
      · exact h_q2
      · exact h_q3
      · exact h_q4
      · exact h_q5
      · exact h_q6
      · exact (va_ci h_mi (fun p hp => (hfw p hp).trans (way0_pm p hp).symm))
      · exact h_hw
    · refine ⟨fun c j c2 j2 hv hv2 he => ?_, fun c j hv => ?_, fun _ => rfl, fun _ => rfl, Nat.zero_le _, Nat.zero_le _, Nat.zero_le _, Nat.zero_le _, Nat.zero_le _, Or.inl rfl⟩
      · obtain ⟨rfl, hj⟩ := xV00 hv
        obtain ⟨rfl, hj2⟩ := xV00 hv2
        refine ⟨rfl, ?_⟩
        rcases (show j = 0 ∨ j = 1 ∨ j = 2 ∨ j = 3 ∨ j = 4 ∨ j = 5 ∨ j = 6 ∨ j = 7 ∨ j = 8 by omega) with rfl | rfl | rfl | rfl | rfl | rfl | rfl | rfl | rfl <;> rcases (show j2 = 0 ∨ j2 = 1 ∨ j2 = 2 ∨ j2 = 3 ∨ j2 = 4 ∨ j2 = 5 ∨ j2 = 6 ∨ j2 = 7 ∨ j2 = 8 by omega) with rfl | rfl | rfl | rfl | rfl | rfl | rfl | rfl | rfl <;> first | rfl | (exfalso; revert he; simp only [ad0, if_true, List.getD, List.getElem?_cons_zero, List.getElem?_cons_succ, Option.getD_some]; omega)
      · obtain ⟨rfl, hj⟩ := xV00 hv
        rcases (show j = 0 ∨ j = 1 ∨ j = 2 ∨ j = 3 ∨ j = 4 ∨ j = 5 ∨ j = 6 ∨ j = 7 ∨ j = 8 by omega) with rfl | rfl | rfl | rfl | rfl | rfl | rfl | rfl | rfl
        · exact hAa
        · exact (hAn _ hA_q1)
        · exact (hAn _ hA_q2)
        · exact (hAn _ hA_q3)
        · exact (hAn _ hA_q4)
        · exact (hAn _ hA_q5)
        · exact (hAn _ hA_q6)
        · exact (hAn _ hA_mi)
        · exact (hAn _ hA_hw)
  refine W.widen (k := 8) (n := 2161) (by omega) (by omega) ?_
  exact W.vret hx hb hr (fun t ht _ => ⟨⟨H15, rfl, hpost, ht⟩, hS.F ht⟩) hS.2.2 dX4_init_61
