/-! The law, from its entry (by p66.py) -/
set_option maxHeartbeats 4000000 in
set_option maxRecDepth 100000 in
/-- THE LAW, from its entry -/
theorem whole_start {p : Program} {e : Env} {s : State} {m : MethodId} {below : List Frame} {meth : Method} {c : Code} (l : Launch) (hflags : l.flags = flags0) {b L : Nat} {xs : Nat → Int32} (hL : L ≤ 2560) (C0 : lw_At p s m meth c b L xs) : W p l e room_1 s m #[Value.ref b] below meth c s.heap [] 0 0 (lw_Z below #[Value.ref b] s) (entryFrame m ([Value.ref b] : List Value).toArray 9) := by
  obtain ⟨hx, hb, hr, hml, hown0, hts0, hXs, hbl, hlocks, hgv⟩ := id C0
  have hown : s.vm.findClass RL = some m.cls := hown0
  have hl9 : l.stackTraces = false := by
    unfold Launch.stackTraces
    rw [hflags]
    decide +kernel
  obtain ⟨D, cA, e0, hE, hNc⟩ := lw_given hts0 hgv
  have hts := hE.1.all #[Value.ref b]
  have hK := hE.2.1
  have hS : va_S (lwA s) s.heap s.heap [] := va_S.rf
  have hl := lv_entry ([.ref b]) (n := 9) (Nat.le_of_ble_eq_true rfl)
  rw [lg_entry_eq]
  generalize (lg_sl ([.ref b]) ++ List.replicate (9 - (lg_sl ([.ref b])).length) Slot.unset).toArray = ls at hl ⊢
  have hl : lv_has ls 9 [(0, .ref b)] := hl
  have hS0 := hS
  refine xnew (D := D) (ci := 5) (fs := [.null, .null, .null, .null, .null, .null, .int 0, .long 0, .long 0, .long 0, .long 0]) (C := RX4) (T := TX4) (N := 11) hx hb hts qi_X4 tyX4 tyX4_ok hown (hts _ q_cl_L_8) (hts _ q_mk_X4) (hts _ q_ini_X4) hK hS rfl (fun j hj => by rcases (show j = 0 ∨ j = 1 ∨ j = 2 ∨ j = 3 ∨ j = 4 ∨ j = 5 ∨ j = 6 ∨ j = 7 ∨ j = 8 ∨ j = 9 ∨ j = 10 by omega) with rfl | rfl | rfl | rfl | rfl | rfl | rfl | rfl | rfl | rfl | rfl <;> rfl) (Nat.le_of_ble_eq_true rfl) (Nat.le_of_ble_eq_true rfl) dL_law_0 (fun q1 H1 hN hS => ?_)
  obtain ⟨a1, hza1⟩ : ∃ z, z = q1 := ⟨_, rfl⟩
  rw [← hza1] at hN ⊢
  have h_a := hN.1
  have hAa : lwA s a1 := by
    have h9 := hS0.1
    have h8 := hN.2.1
    show s.heap.size ≤ a1
    omega
  have hAn1 : ∀ q, H1.size ≤ q → lwA s q := fun q h => Nat.le_trans hS.1 h
  refine lv_dup hx hb dL_law_3 rfl ?_
  refine xcv (va_runI (As := []) (rest := [.ref (a1)]) ⟨hx, hb, hml, hown, hts⟩ (c_X4_init l D cA e0 (lwA s) H1 a1 h_a hAa hAn1) ⟨(callB_of 0 hts gi_X4_init rfl rfl rfl (hts _ q_ini_X4) (hts _ q_ml_L_62) hd_X4_init ⟨Nat.le_of_ble_eq_true rfl, Nat.le_of_ble_eq_true rfl⟩), rfl, hts _ q_im_X4_init⟩ (xpS hE hS) rfl rfl hl.1 rfl (lv_room (Nat.le_of_ble_eq_true rfl)) dL_law_4 ⟨Nat.le_of_ble_eq_true rfl, Nat.le_of_ble_eq_true rfl⟩) hS (fun q h => h) (fun HA locs hP9 hz9 hk9 hS => ?_)
  obtain ⟨ad, hX, hA0, had⟩ := hP9
  have hS0 := hS
  refine lv_astore_n (lv' := [(1, .ref (a1)), (0, .ref (b))]) hx hb dL_law_7 rfl hl (by decide) rfl (fun ls hl => ?_)
  have hS0 := hS
  have h2S := hS
  refine xnew (D := D) (ci := 6) (fs := [.int 0, .int 0, .int 0, .null, .null, .null, .null, .null, .null, .null, .null, .null, .null, .int 0, .null, .null, .null]) (C := RX5) (T := TX5) (N := 17) hx hb hts qi_X5 tyX5 tyX5_ok hown (hts _ q_cl_L_63) (hts _ q_mk_X5) (hts _ q_ini_X5) hK hS rfl (fun j hj => by rcases (show j = 0 ∨ j = 1 ∨ j = 2 ∨ j = 3 ∨ j = 4 ∨ j = 5 ∨ j = 6 ∨ j = 7 ∨ j = 8 ∨ j = 9 ∨ j = 10 ∨ j = 11 ∨ j = 12 ∨ j = 13 ∨ j = 14 ∨ j = 15 ∨ j = 16 by omega) with rfl | rfl | rfl | rfl | rfl | rfl | rfl | rfl | rfl | rfl | rfl | rfl | rfl | rfl | rfl | rfl | rfl <;> rfl) (Nat.le_of_ble_eq_true rfl) (Nat.le_of_ble_eq_true rfl) dL_law_8 (fun q2 H2 hN hS => ?_)
  obtain ⟨a2, hza2⟩ : ∃ z, z = q2 := ⟨_, rfl⟩
  rw [← hza2] at hN ⊢
  have h_a := hN.1
  have ha2 : a2 = HA.size := hN.2.1
  have hz3 := hN.2.2.1
  have hX3 := hX.keep (fun c j hv => hN.2.2.2 _ (hX.lt hv))
  have hsub : ∀ q, HA.size ≤ q → lwA s q := fun q h => Nat.le_trans hS0.1 h
  refine lv_dup hx hb dL_law_11 rfl ?_
  refine xcv (va_runI (As := []) (rest := [.ref (a2)]) ⟨hx, hb, hml, hown, hts⟩ (c_X5_init l D cA e0 (fun q => HA.size ≤ q) H2 a2 h_a (show HA.size ≤ a2 by omega) (fun q (h : H2.size ≤ q) => show HA.size ≤ q by omega)) ⟨(callB_of 0 hts gi_X5_init rfl rfl rfl (hts _ q_ini_X5) (hts _ q_ml_L_65) hd_X5_init ⟨Nat.le_of_ble_eq_true rfl, Nat.le_of_ble_eq_true rfl⟩), rfl, hts _ q_im_X5_init⟩ (xpSn hE hS hsub) rfl rfl hl.1 rfl (lv_room (Nat.le_of_ble_eq_true rfl)) dL_law_12 ⟨Nat.le_of_ble_eq_true rfl, Nat.le_of_ble_eq_true rfl⟩) hS hsub (fun HB locs hP9 hz9 hk9 hS => ?_)
  obtain ⟨bm, hY, hB0, hbm0⟩ := hP9
  have hS0 := hS
  have hX4 := hX3.keep (fun c j hv => hk9 _ (hX3.lt hv) (fun z => absurd (hX.lt hv) (Nat.not_lt.mpr z)))
  refine lv_astore_n (lv' := [(2, .ref (a2)), (1, .ref (a1)), (0, .ref (b))]) hx hb dL_law_15 rfl hl (by decide) rfl (fun ls hl => ?_)
  refine lv_iconst (v := nI 1) hx hb dL_law_16 (by decide) ?_
  have hS0 := hS
  refine xnewa (D := D) (atype := .long) (a0 := (1, .inr (.inl (fun _ => 0)))) hx hb (hts _ q_ac_long) rfl (Or.inr rfl) hK hS 1 rfl (fun _ => rfl) (nI_pos (by omega)) (nI_clamp (n := 1) (by omega)) (Nat.le_of_ble_eq_true rfl) (Nat.le_of_ble_eq_true rfl) (Nat.le_of_ble_eq_true rfl) dL_law_17 (fun q3 H3 hN hS => ?_)
  obtain ⟨o, hzo⟩ : ∃ z, z = q3 := ⟨_, rfl⟩
  rw [← hzo] at hN ⊢
  have hO := hN.1
  have ho5 : o = HB.size := hN.2.1
  have hX5 := hX4.keep (fun c j hv => hN.2.2.2 _ (hX4.lt hv))
  have hY5 := hY.keep (fun j hj => hN.2.2.2 _ (hY j hj).lt)
  have hs0 := hS0.1
  refine lv_astore_n (lv' := [(3, .ref (o)), (2, .ref (a2)), (1, .ref (a1)), (0, .ref (b))]) hx hb dL_law_19 rfl hl (by decide) rfl (fun ls hl => ?_)
  refine lv_iconst (v := nI 0) hx hb dL_law_20 (by decide) ?_
  refine lv_istore (lv' := [(4, .int (nI 0)), (3, .ref (o)), (2, .ref (a2)), (1, .ref (a1)), (0, .ref (b))]) hx hb dL_law_21 hl (by decide) rfl (fun ls hl => ?_)
  have h2s := h2S.1
  have hbmA : ∀ j, j < 14 → s.heap.size ≤ bm j := fun j hj => Nat.le_trans h2s (hB0.2.1 j hj)
  have hob : ∀ j, j < 14 → o ≠ bm j := fun j hj => by
    have := (hY j hj).lt
    omega
  have C : lwC p l s m meth c b L xs D cA e0 o bm := ⟨hx, hb, hr, hml, hown, hE, hNc, hXs, hbl, hlocks, hL, hbmA, hB0.1, (show s.heap.size ≤ o by omega), hob, hl9⟩
  have hAF : xA (cF s.heap.size o bm) e0 ad n00 := xA_to hA0 (fun c j hv => ⟨hA0.a hv, fun z => by
    have := hX4.lt hv
    omega, fun j9 hj9 z => by
    have h1 := hX.lt hv
    have h2 : HA.size ≤ bm j9 := hB0.2.1 j9 hj9
    omega⟩)
  rw [← hbm0] at hl
  exact law_loop C 513 0 0 ad g00 (fun _ => 0) n00 _ _ ls rfl (Nat.zero_le _) (by omega) (LI_0 hX5 hAF hY5 ⟨_, hO⟩ had) hS (lv_sub hl [0, 1, 2, 3, 4] rfl)
