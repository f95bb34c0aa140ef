/-! The law, from its entry (by p47.py) -/
set_option maxHeartbeats 4000000 in
set_option maxRecDepth 100000 in
/-- THE LAW, from its entry -/
theorem whole_start {p : Program} {e : Env} {s : State} {m : MethodId} {below : List Frame} {meth : Method} {c : Code} (l : Launch) (hflags : l.flags = flags0) {b L : Nat} {xs : Nat → Int32} (hL : L ≤ 260) (C0 : lw_At p s m meth c b L xs) : W p l e room_1 s m #[Value.ref b] below meth c s.heap [] 0 0 (lw_Z below #[Value.ref b] s) (entryFrame m ([Value.ref b] : List Value).toArray 23) := by
  obtain ⟨hx, hb, hr, hml, hown0, hts0, hXs, hbl, hlocks, hgv⟩ := id C0
  have hown : s.vm.findClass RL = some m.cls := hown0
  have hl9 : l.stackTraces = false := by
    unfold Launch.stackTraces
    rw [hflags]
    decide +kernel
  obtain ⟨D, cA, e0, hE⟩ := lw_given hts0 hgv
  have hts := hE.1.all #[Value.ref b]
  have hK := hE.2.1
  have hS : va_S (lwA s) s.heap s.heap [] := va_S.rf
  have hl := lv_entry ([.ref b]) (n := 23) (Nat.le_of_ble_eq_true rfl)
  rw [lg_entry_eq]
  generalize (lg_sl ([.ref b]) ++ List.replicate (23 - (lg_sl ([.ref b])).length) Slot.unset).toArray = ls at hl ⊢
  have hl : lv_has ls 23 [(0, .ref b)] := hl
  have hS0 := hS
  refine xnew (D := D) (ci := 5) (fs := [.null, .null, .null, .null, .null, .null, .int 0, .long 0, .long 0, .long 0, .long 0]) (C := RX4) (T := TX4) (N := 11) hx hb hts qi_X4 tyX4 tyX4_ok hown (hts _ q_cl_L_21) (hts _ q_mk_X4) (hts _ q_ini_X4) hK hS rfl (fun j hj => by rcases (show j = 0 ∨ j = 1 ∨ j = 2 ∨ j = 3 ∨ j = 4 ∨ j = 5 ∨ j = 6 ∨ j = 7 ∨ j = 8 ∨ j = 9 ∨ j = 10 by omega) with rfl | rfl | rfl | rfl | rfl | rfl | rfl | rfl | rfl | rfl | rfl <;> rfl) (Nat.le_of_ble_eq_true rfl) (Nat.le_of_ble_eq_true rfl) dL_law_0 (fun q1 H1 hN hS => ?_)
  obtain ⟨a1, hza1⟩ : ∃ z, z = q1 := ⟨_, rfl⟩
  rw [← hza1] at hN ⊢
  have h_a := hN.1
  have hAa : lwA s a1 := by
    have h9 := hS0.1
    have h8 := hN.2.1
    show s.heap.size ≤ a1
    omega
  have hAn1 : ∀ q, H1.size ≤ q → lwA s q := fun q h => Nat.le_trans hS.1 h
  refine lv_dup hx hb dL_law_3 rfl ?_
  refine xcv (va_runI (As := []) (rest := [.ref (a1)]) ⟨hx, hb, hml, hown, hts⟩ (c_X4_init l D cA e0 (lwA s) H1 a1 h_a hAa hAn1) ⟨(callB_of 0 hts gi_X4_init rfl rfl rfl (hts _ q_ini_X4) (hts _ q_ml_L_74) hd_X4_init ⟨Nat.le_of_ble_eq_true rfl, Nat.le_of_ble_eq_true rfl⟩), rfl, hts _ q_im_X4_init⟩ (xpS hE hS) rfl rfl hl.1 rfl (lv_room (Nat.le_of_ble_eq_true rfl)) dL_law_4 ⟨Nat.le_of_ble_eq_true rfl, Nat.le_of_ble_eq_true rfl⟩) hS (fun q h => h) (fun HA locs hP9 hz9 hk9 hS => ?_)
  obtain ⟨ad, hX, hA0, had⟩ := hP9
  have hSA := hS.1
  refine lv_astore_n (lv' := [(1, .ref (a1)), (0, .ref (b))]) hx hb dL_law_7 rfl hl (by decide) rfl (fun ls hl => ?_)
  rw [← had] at hl
  refine lv_bipush (v := nI 81) hx hb dL_law_8 (by decide) ?_
  refine xnewa (D := D) (atype := .int) (a0 := (81, .inl (fun _ => 0))) hx hb (hts _ q_ac_int) rfl (Or.inl rfl) hK hS 0 rfl (fun _ => rfl) (nI_pos (by omega)) (nI_clamp (n := 81) (by omega)) (Nat.le_of_ble_eq_true rfl) (Nat.le_of_ble_eq_true rfl) (Nat.le_of_ble_eq_true rfl) dL_law_10 (fun q2 H2 hN hS => ?_)
  obtain ⟨w, hzw⟩ : ∃ z, z = q2 := ⟨_, rfl⟩
  rw [← hzw] at hN ⊢
  have hWa := hN.1
  have hqw : w = HA.size := hN.2.1
  have hzw := hN.2.2.1
  have hX2 := hX.keep (fun c j hv => hN.2.2.2 _ (hX.lt hv))
  refine lv_astore_n (lv' := [(2, .ref (w)), (1, .ref (ad 0 0)), (0, .ref (b))]) hx hb dL_law_12 rfl hl (by decide) rfl (fun ls hl => ?_)
  refine lv_aload_n hx hb dL_law_13 rfl (lv_at hl 1 rfl) ?_
  refine lv_aload_n hx hb dL_law_14 rfl (lv_at hl 2 rfl) ?_
  refine lv_iconst (v := nI 0) hx hb dL_law_15 (by decide) ?_
  refine lv_bipush (v := nI 6) hx hb dL_law_16 (by decide) ?_
  refine lv_aload_n hx hb dL_law_18 rfl (lv_at hl 0 rfl) ?_
  refine lv_bipush (v := nI 24) hx hb dL_law_19 (by decide) ?_
  refine xnewa (D := D) (atype := .int) (a0 := (24, .inl (fun _ => 0))) hx hb (hts _ q_ac_int) rfl (Or.inl rfl) hK hS 0 rfl (fun _ => rfl) (nI_pos (by omega)) (nI_clamp (n := 24) (by omega)) (Nat.le_of_ble_eq_true rfl) (Nat.le_of_ble_eq_true rfl) (Nat.le_of_ble_eq_true rfl) dL_law_21 (fun q3 H3 hN hS => ?_)
  obtain ⟨mm, hzmm⟩ : ∃ z, z = q3 := ⟨_, rfl⟩
  rw [← hzmm] at hN ⊢
  have hMa := hN.1
  have hqm := hN.2.1
  have hzm := hN.2.2.1
  have hWa := hWa.kept (hN.2.2.2 _ hWa.lt)
  have hX3 := hX2.keep (fun c j hv => hN.2.2.2 _ (hX2.lt hv))
  refine lv_sipush (v := nI 288) hx hb dL_law_23 (by decide) ?_
  refine xnewa (D := D) (atype := .int) (a0 := (288, .inl (fun _ => 0))) hx hb (hts _ q_ac_int) rfl (Or.inl rfl) hK hS 0 rfl (fun _ => rfl) (nI_pos (by omega)) (nI_clamp (n := 288) (by omega)) (Nat.le_of_ble_eq_true rfl) (Nat.le_of_ble_eq_true rfl) (Nat.le_of_ble_eq_true rfl) dL_law_26 (fun q4 H4 hN hS => ?_)
  obtain ⟨sl, hzsl⟩ : ∃ z, z = q4 := ⟨_, rfl⟩
  rw [← hzsl] at hN ⊢
  have hSa := hN.1
  have hqs := hN.2.1
  have hzs := hN.2.2.1
  have hWa := hWa.kept (hN.2.2.2 _ hWa.lt)
  have hMa := hMa.kept (hN.2.2.2 _ hMa.lt)
  have hX4 := hX3.keep (fun c j hv => hN.2.2.2 _ (hX3.lt hv))
  have hF : ∀ q, cF s.heap.size w mm sl q → lwA s q := fun q h => h.1
  have hA : xA (cF s.heap.size w mm sl) e0 ad n00 := xA_to hA0 (fun c j hv => ⟨hA0.a hv, by
    have := hX.lt hv
    omega, by
    have := hX.lt hv
    omega, by
    have := hX.lt hv
    omega⟩)
  have hAn : ∀ q, H4.size ≤ q → cF s.heap.size w mm sl q := fun q h => ⟨Nat.le_trans hS.1 h, by omega, by omega, by omega⟩
  have hwF : ¬ cF s.heap.size w mm sl w := fun z => z.2.1 rfl
  have hmF : ¬ cF s.heap.size w mm sl mm := fun z => z.2.2.1 rfl
  have hsF : ¬ cF s.heap.size w mm sl sl := fun z => z.2.2.2 rfl
  have hbA : ¬ lwA s b := Nat.not_le.mpr hbl
  have hLm : L < 2 ^ 31 := by omega
  refine xci (va_runS (As := [.ref (ad 0 0), .ref (b), .int (nI 0), .int (nI 6), .ref (w), .ref (mm), .ref (sl)]) (rest := []) ⟨hx, hb, hml, hown, hts⟩ (c_L_build l D cA e0 (lwA s) H4 ad hX4 (cF s.heap.size w mm sl) hF hA hAn w mm sl (fun _ => 0) (fun _ => 0) (fun _ => 0) hWa hMa hSa (show s.heap.size ≤ w by omega) (show s.heap.size ≤ mm by omega) (show s.heap.size ≤ sl by omega) hwF hmF hsF (by omega) (by omega) (by omega) b L xs hbA hLm hl9) ⟨(callB_of 7 hts gi_L_build rfl rfl rfl (hts _ q_ini_L) (hts _ q_ml_L_75) hd_L_build ⟨Nat.le_of_ble_eq_true rfl, Nat.le_of_ble_eq_true rfl⟩), hts _ q_st_L_build⟩ (xpSs hE hXs hbl hbA hS (fun q h => h)) rfl rfl hl.1 rfl (lv_room (Nat.le_of_ble_eq_true rfl)) dL_law_28 ⟨Nat.le_of_ble_eq_true rfl, Nat.le_of_ble_eq_true rfl⟩) hS (fun q h => h) (fun r9 HB locs hP9 hz9 hk9 hS => ?_)
  obtain ⟨hr9, ad2, g, N, hNn, hB⟩ := hP9
  have hlt := bel_lt (cellF xs L 0) (n := 6) (by omega)
  obtain ⟨n, hn⟩ : ∃ z, z = 1 + belN (cellF xs L 0) 6 := ⟨_, rfl⟩
  rw [← hn] at hr9 hNn
  rw [hr9]
  rw [show ad 0 0 = ad2 0 0 from hB.2.2.1.symm] at hl
  obtain ⟨hI, hday⟩ := pI_of hB hNn
  have hn6 : n ≤ 6 := by omega
  refine lv_istore_n (lv' := [(3, .int (nI (n))), (2, .ref (w)), (1, .ref (ad2 0 0)), (0, .ref (b))]) hx hb dL_law_31 rfl hl (by decide) rfl (fun ls hl => ?_)
  refine lv_iload_n hx hb dL_law_32 rfl (lv_at hl 0 rfl) ?_
  refine lv_if_ge (tgt := 38) hx hb dL_law_33 (by decide) (fun _ => ?_) (fun hno => absurd ((nI_pos' (by omega))) hno)
  refine lv_iconst (v := nI 0) hx hb dL_law_38 (by decide) ?_
  refine lv_istore (lv' := [(4, .int (nI 0)), (3, .int (nI (n))), (2, .ref (w)), (1, .ref (ad2 0 0)), (0, .ref (b))]) hx hb dL_law_39 hl (by decide) rfl (fun ls hl => ?_)
  have C : lwC p l s m meth c b L xs D cA e0 w (cF s.heap.size w mm sl) := ⟨hx, hb, hr, hml, hown, hE, hXs, hbl, hlocks, hL, hl9, hF, hwF⟩
  refine W.widen (k := 400 + 200 * 0) (n := 5400 + 1200 * 0) (Nat.le_of_ble_eq_true rfl) (Nat.le_of_ble_eq_true rfl) ?_
  exact law_loop C hn6 6 0 ad2 g (fun _ => 0) N _ _ ls 0 (by omega) (by omega) (by omega) (by omega) hday hI hS (lv_sub hl [0, 1, 2, 3, 4] rfl)
