/-! The law's calls 4 to 8 (by p62.py) -/
set_option maxHeartbeats 4000000 in
set_option maxRecDepth 100000 in
/-- the law's call 4: machineCount -/
theorem law_c_4 {p : Program} {l : Launch} {e : Env} {s : State} {m : MethodId} {below : List Frame} {meth : Method} {c : Code} {b L : Nat} {xs : Nat → Int32} {D : va_G} {cA : Nat → ClassId} {e0 x0 o : Nat} {bm : Nat → Nat} (C : lwC p l s m meth c b L xs D cA e0 o bm) {i t : Nat} (hi : i + 5 ≤ L) (ht : t < 512) {ad : Nat → Nat → Nat} {g : Nat → Nat → Int32} {tt : Nat → Int64} {N : Nat → Nat} {H : Heap} {locs : List Loc} {ls : Array Slot} (hLI : LI D cA e0 s.heap.size x0 o bm ad g tt N H) (hS : va_S (lwA s) s.heap H locs) (hl : lv_has ls 9 [(4, .int (nI (i))), (3, .ref o), (2, .ref (bm 0)), (1, .ref x0), (0, .ref b)]) (K : lwK p l e s m below meth c b D cA e0 x0 o bm i t) : W p l e room_1 s m #[Value.ref b] below meth c H locs (24 + 9 * t) (4951 + 56 * t) (lw_Z below #[Value.ref b] s) (F0 m 448 ls []) := by
  obtain ⟨hx, hb, hr, hml, hown, hE, hNc, hXs, hbl, hlocks, hLb, hbm, hinj, ho, hob, hl9⟩ := C
  have hts := hE.1.all #[Value.ref b]
  have hK := hE.2.1
  obtain ⟨hX, hAx, hY, hI, hW, hdf, hN2, hdy, hP, hC, ⟨f0, hO⟩, rfl⟩ := id hLI
  have hn8 := hAx.n8
  have hbA : ¬ lwA s b := Nat.not_le.mpr hbl
  have hF : ∀ q, cF s.heap.size o bm q → cO s.heap.size o bm q := fun q h => Or.inl h
  have hFF : ∀ q, cF s.heap.size o bm q → lwA s q := fun q h => h.1
  have hFo : ∀ q, cO s.heap.size o bm q → lwA s q := fun q h => h.elim (fun z => z.1) (fun z => by rw [z]; exact ho)
  have hoF : ¬ cF s.heap.size o bm o := fun z => z.2.1 rfl
  have hcM : ∀ q, cM bm q → lwA s q := fun q ⟨j, hj, z⟩ => by rw [z]; exact hbm j hj
  have hbO : ∀ j, j < 14 → ¬ cO s.heap.size o bm (bm j) := fun j hj z => z.elim (fun z => z.2.2 j hj rfl) (fun z => hob j hj z.symm)
  have hoM : ¬ cM bm o := fun ⟨j, hj, z⟩ => hob j hj z
  have hYA : yA (cM bm) bm (N 0) (N 1) := ⟨hinj, fun j hj => ⟨j, hj, rfl⟩, hn8, hAx.2.2.2.2.2.2.2.1⟩
  have hAn : ∀ q, H.size ≤ q → cF s.heap.size o bm q := fun q hq => ⟨Nat.le_trans hS.1 hq, fun z => by have := hO.lt; omega, fun j hj z => by have := (hY j hj).lt; omega⟩
  refine lv_aload_n hx hb dL_law_448 rfl (lv_at hl 3 rfl) ?_
  refine xcRi (va_runV (As := []) (rest := []) ⟨hx, hb, hml, hown, hts⟩ (c_X4_machineCount l D cA e0 (cF s.heap.size o bm) H ad g tt N hX) ⟨(callB_of 0 hts gi_X4_machineCount rfl rfl rfl (hts _ q_ini_X4) (hts _ q_ml_L_87) hd_X4_machineCount ⟨Nat.le_of_ble_eq_true rfl, Nat.le_of_ble_eq_true rfl⟩), hts _ q_im_X4_machineCount, hts _ q_sel_X4_X4_machineCount⟩ (xpVn hE hS hFF (hX.main) rfl) rfl rfl hl.1 rfl (lv_room (Nat.le_of_ble_eq_true rfl)) dL_law_449 ⟨(show 24 + 9 * t + 0 ≤ 601024 by omega), (show 4951 + 56 * t + 0 ≤ 7293033 by omega)⟩) ?_
  refine W.widen (k := 24 + 9 * (t + 1)) (n := 4951 + 56 * (t + 1)) (by omega) (by omega) ?_
  have hX1 := hX
  have hY1 := hY
  have hO1 := hO
  refine lv_aload_n hx hb dL_law_452 rfl (lv_at hl 2 rfl) ?_
  refine xci (va_runV (As := []) (rest := [.int (nI (N 0))]) ⟨hx, hb, hml, hown, hts⟩ (c_X5_machineCount l D cA e0 (cM bm) H bm g tt (N 0) (N 1) hY1 hYA ) ⟨(callB_of 0 hts gi_X5_machineCount rfl rfl rfl (hts _ q_ini_X5) (hts _ q_ml_L_90) hd_X5_machineCount ⟨Nat.le_of_ble_eq_true rfl, Nat.le_of_ble_eq_true rfl⟩), hts _ q_im_X5_machineCount, hts _ q_sel_X5_X5_machineCount⟩ (xpVn hE hS hcM (hY1.main) rfl) rfl rfl hl.1 rfl (lv_room (Nat.le_of_ble_eq_true rfl)) dL_law_453 ⟨(show 24 + 9 * (t + 1) + 0 ≤ 601024 by omega), (show 4951 + 56 * (t + 1) + 0 ≤ 7293033 by omega)⟩) hS hcM (fun r8 H2 locs hQ9 hz8 hk8 hS => ?_)
  refine W.widen (k := 24 + 9 * (t + 1)) (n := 4951 + 56 * (t + 1)) (by omega) (by omega) ?_
  have hX2 := hX1.mod hAx hk8
  have hO2 := hO1.kept (hk8 _ hO1.lt hoM)
  obtain ⟨hr2, hY2⟩ := hQ9
  rw [hr2]
  refine lv_icmp_eq (tgt := 1185) hx hb dL_law_456 (by decide) (fun _ => ?_) (fun hno => absurd (rfl) hno)
  exact K _ _ _ _ _ _ _ (LI_eqY hLI hX2 (fun _ _ _ _ => rfl) hY2 (fun t9 a9 _ => thG_t g 0 a9) ⟨_, hO2⟩) hS (lv_sub hl [0, 1, 2, 3, 4] rfl)
set_option maxHeartbeats 4000000 in
set_option maxRecDepth 100000 in
/-- the law's call 5: slot -/
theorem law_c_5 {p : Program} {l : Launch} {e : Env} {s : State} {m : MethodId} {below : List Frame} {meth : Method} {c : Code} {b L : Nat} {xs : Nat → Int32} {D : va_G} {cA : Nat → ClassId} {e0 x0 o : Nat} {bm : Nat → Nat} (C : lwC p l s m meth c b L xs D cA e0 o bm) {i t : Nat} (hi : i + 5 ≤ L) (ht : t < 512) {ad : Nat → Nat → Nat} {g : Nat → Nat → Int32} {tt : Nat → Int64} {N : Nat → Nat} {H : Heap} {locs : List Loc} {ls : Array Slot} (hLI : LI D cA e0 s.heap.size x0 o bm ad g tt N H) (hS : va_S (lwA s) s.heap H locs) (hl : lv_has ls 9 [(4, .int (nI (i))), (3, .ref o), (2, .ref (bm 0)), (1, .ref x0), (0, .ref b)]) (K : lwK p l e s m below meth c b D cA e0 x0 o bm i t) : W p l e room_1 s m #[Value.ref b] below meth c H locs (24 + 9 * t) (4951 + 56 * t) (lw_Z below #[Value.ref b] s) (F0 m 461 ls []) := by
  obtain ⟨hx, hb, hr, hml, hown, hE, hNc, hXs, hbl, hlocks, hLb, hbm, hinj, ho, hob, hl9⟩ := C
  have hts := hE.1.all #[Value.ref b]
  have hK := hE.2.1
  obtain ⟨hX, hAx, hY, hI, hW, hdf, hN2, hdy, hP, hC, ⟨f0, hO⟩, rfl⟩ := id hLI
  have hn8 := hAx.n8
  have hbA : ¬ lwA s b := Nat.not_le.mpr hbl
  have hF : ∀ q, cF s.heap.size o bm q → cO s.heap.size o bm q := fun q h => Or.inl h
  have hFF : ∀ q, cF s.heap.size o bm q → lwA s q := fun q h => h.1
  have hFo : ∀ q, cO s.heap.size o bm q → lwA s q := fun q h => h.elim (fun z => z.1) (fun z => by rw [z]; exact ho)
  have hoF : ¬ cF s.heap.size o bm o := fun z => z.2.1 rfl
  have hcM : ∀ q, cM bm q → lwA s q := fun q ⟨j, hj, z⟩ => by rw [z]; exact hbm j hj
  have hbO : ∀ j, j < 14 → ¬ cO s.heap.size o bm (bm j) := fun j hj z => z.elim (fun z => z.2.2 j hj rfl) (fun z => hob j hj z.symm)
  have hoM : ¬ cM bm o := fun ⟨j, hj, z⟩ => hob j hj z
  have hYA : yA (cM bm) bm (N 0) (N 1) := ⟨hinj, fun j hj => ⟨j, hj, rfl⟩, hn8, hAx.2.2.2.2.2.2.2.1⟩
  have hAn : ∀ q, H.size ≤ q → cF s.heap.size o bm q := fun q hq => ⟨Nat.le_trans hS.1 hq, fun z => by have := hO.lt; omega, fun j hj z => by have := (hY j hj).lt; omega⟩
  refine lv_aload_n hx hb dL_law_461 rfl (lv_at hl 3 rfl) ?_
  refine lv_aload_n hx hb dL_law_462 rfl (lv_at hl 4 rfl) ?_
  refine lv_iload hx hb dL_law_463 (lv_at hl 0 rfl) ?_
  refine lv_iconst (v := nI 1) hx hb dL_law_465 (by decide) ?_
  refine lv_iadd hx hb dL_law_466 ?_
  refine xtop (show ((nI (i)) + (nI 1)) = nI (i + 1) from nI_add i 1) ?_
  refine va_sld hx hb hXs hbl hbA hS (i := nI (i + 1)) (vp_in_nI (n := i + 1) (by omega) (by omega)) dL_law_467 ?_
  refine xtop (show (xs (nI (i + 1)).toNatClampNeg) = xs (i + 1) from by rw [nI_clamp (n := i + 1) (by omega)]) ?_
  refine lv_aload_n hx hb dL_law_468 rfl (lv_at hl 4 rfl) ?_
  refine lv_iload hx hb dL_law_469 (lv_at hl 0 rfl) ?_
  refine lv_iconst (v := nI 2) hx hb dL_law_471 (by decide) ?_
  refine lv_iadd hx hb dL_law_472 ?_
  refine xtop (show ((nI (i)) + (nI 2)) = nI (i + 2) from nI_add i 2) ?_
  refine va_sld hx hb hXs hbl hbA hS (i := nI (i + 2)) (vp_in_nI (n := i + 2) (by omega) (by omega)) dL_law_473 ?_
  refine xtop (show (xs (nI (i + 2)).toNatClampNeg) = xs (i + 2) from by rw [nI_clamp (n := i + 2) (by omega)]) ?_
  refine lv_aload_n hx hb dL_law_474 rfl (lv_at hl 4 rfl) ?_
  refine lv_iload hx hb dL_law_475 (lv_at hl 0 rfl) ?_
  refine lv_iconst (v := nI 3) hx hb dL_law_477 (by decide) ?_
  refine lv_iadd hx hb dL_law_478 ?_
  refine xtop (show ((nI (i)) + (nI 3)) = nI (i + 3) from nI_add i 3) ?_
  refine va_sld hx hb hXs hbl hbA hS (i := nI (i + 3)) (vp_in_nI (n := i + 3) (by omega) (by omega)) dL_law_479 ?_
  refine xtop (show (xs (nI (i + 3)).toNatClampNeg) = xs (i + 3) from by rw [nI_clamp (n := i + 3) (by omega)]) ?_
  refine lv_aload_n hx hb dL_law_480 rfl (lv_at hl 1 rfl) ?_
  refine xci (vx_runSW (As := [.ref (ad 0 0), .int (xs (i + 1)), .int (xs (i + 2)), .int (xs (i + 3)), .ref (o)]) (rest := []) ⟨hx, hb, hml, hown, hts⟩ (c_L_slot l D cA e0 (cO s.heap.size o bm) H ad g tt N hX (xs (i + 1)) (xs (i + 2)) (xs (i + 3)) (cF s.heap.size o bm) hF hAx  o f0 hO (Or.inr rfl) hoF hl9) (callSW_of 5 hts gi_L_slot rfl rfl rfl (hts _ q_ini_L) (hts _ q_ml_L_91) (hts _ q_st_L_slot) hd_L_slot ⟨Nat.le_of_ble_eq_true rfl, Nat.le_of_ble_eq_true rfl⟩) (xpSw hE hNc hS hFo) rfl rfl hl.1 rfl (lv_room (Nat.le_of_ble_eq_true rfl)) dL_law_481 ⟨(show 24 + 9 * t + 3 ≤ 601024 by omega), (show 4951 + 56 * t + 18 ≤ 7293033 by omega)⟩) hS hFo (fun r9 H1 locs hP9 hz9 hk9 hS => ?_)
  refine W.widen (k := 24 + 9 * (t + 1)) (n := 4951 + 56 * (t + 1)) (by omega) (by omega) ?_
  have hY1 : yW D cA bm g tt (N 0) (N 1) H1 := hY.keep (fun j hj => hk9 _ (hY j hj).lt (hbO j hj))
  rcases hP9 with ⟨hr9, f1, hO1, p1, hf1, hX1⟩ | ⟨hr9, hc, hX1, hO1⟩
  · rw [hr9]
    refine lv_istore (lv' := [(5, .int (nI 0)), (4, .int (nI (i))), (3, .ref (o)), (2, .ref (bm 0)), (1, .ref (ad 0 0)), (0, .ref (b))]) hx hb dL_law_484 hl (by decide) rfl (fun ls hl => ?_)
    refine lv_aload_n hx hb dL_law_486 rfl (lv_at hl 3 rfl) ?_
    refine lv_aload_n hx hb dL_law_487 rfl (lv_at hl 5 rfl) ?_
    refine lv_iload hx hb dL_law_488 (lv_at hl 1 rfl) ?_
    refine lv_iconst (v := nI 1) hx hb dL_law_490 (by decide) ?_
    refine lv_iadd hx hb dL_law_491 ?_
    refine xtop (show ((nI (i)) + (nI 1)) = nI (i + 1) from nI_add i 1) ?_
    refine va_sld hx hb hXs hbl hbA hS (i := nI (i + 1)) (vp_in_nI (n := i + 1) (by omega) (by omega)) dL_law_492 ?_
    refine xtop (show (xs (nI (i + 1)).toNatClampNeg) = xs (i + 1) from by rw [nI_clamp (n := i + 1) (by omega)]) ?_
    refine lv_aload_n hx hb dL_law_493 rfl (lv_at hl 5 rfl) ?_
    refine lv_iload hx hb dL_law_494 (lv_at hl 1 rfl) ?_
    refine lv_iconst (v := nI 2) hx hb dL_law_496 (by decide) ?_
    refine lv_iadd hx hb dL_law_497 ?_
    refine xtop (show ((nI (i)) + (nI 2)) = nI (i + 2) from nI_add i 2) ?_
    refine va_sld hx hb hXs hbl hbA hS (i := nI (i + 2)) (vp_in_nI (n := i + 2) (by omega) (by omega)) dL_law_498 ?_
    refine xtop (show (xs (nI (i + 2)).toNatClampNeg) = xs (i + 2) from by rw [nI_clamp (n := i + 2) (by omega)]) ?_
    refine lv_aload_n hx hb dL_law_499 rfl (lv_at hl 5 rfl) ?_
    refine lv_iload hx hb dL_law_500 (lv_at hl 1 rfl) ?_
    refine lv_iconst (v := nI 3) hx hb dL_law_502 (by decide) ?_
    refine lv_iadd hx hb dL_law_503 ?_
    refine xtop (show ((nI (i)) + (nI 3)) = nI (i + 3) from nI_add i 3) ?_
    refine va_sld hx hb hXs hbl hbA hS (i := nI (i + 3)) (vp_in_nI (n := i + 3) (by omega) (by omega)) dL_law_504 ?_
    refine xtop (show (xs (nI (i + 3)).toNatClampNeg) = xs (i + 3) from by rw [nI_clamp (n := i + 3) (by omega)]) ?_
    refine xci (va_runV (As := [.int (xs (i + 1)), .int (xs (i + 2)), .int (xs (i + 3))]) (rest := []) ⟨hx, hb, hml, hown, hts⟩ (c_X5_slot l D cA e0 (cM bm) H1 bm g tt (N 0) (N 1) hY1 hYA (xs (i + 1)) (xs (i + 2)) (xs (i + 3))) ⟨(callB_of 3 hts gi_X5_slot rfl rfl rfl (hts _ q_ini_X5) (hts _ q_ml_L_93) hd_X5_slot ⟨Nat.le_of_ble_eq_true rfl, Nat.le_of_ble_eq_true rfl⟩), hts _ q_im_X5_slot, hts _ q_sel_X5_X5_slot⟩ (xpVn hE hS hcM (hY1.main) rfl) rfl rfl hl.1 rfl (lv_room (Nat.le_of_ble_eq_true rfl)) dL_law_505 ⟨(show 24 + 9 * (t + 1) + 0 ≤ 601024 by omega), (show 4951 + 56 * (t + 1) + 0 ≤ 7293033 by omega)⟩) hS hcM (fun r8 H2 locs hQ9 hz8 hk8 hS => ?_)
    refine W.widen (k := 24 + 9 * (t + 1)) (n := 4951 + 56 * (t + 1)) (by omega) (by omega) ?_
    have hX2 := hX1.mod hAx hk8
    have hO2 := hO1.kept (hk8 _ hO1.lt hoM)
    rcases hQ9 with ⟨m1, hr2, hY2⟩ | ⟨m1, hY2⟩
    · have hcmp : f1 0 = r8.toInt64 := by rw [hf1, hr2]
      refine lv_istore (lv' := [(6, .int (r8)), (5, .int (nI 0)), (4, .int (nI (i))), (3, .ref (o)), (2, .ref (bm 0)), (1, .ref (ad 0 0)), (0, .ref (b))]) hx hb dL_law_508 hl (by decide) rfl (fun ls hl => ?_)
      refine lv_aload_n hx hb dL_law_510 rfl (lv_at hl 4 rfl) ?_
      refine xcRi (va_runV (As := []) (rest := []) ⟨hx, hb, hml, hown, hts⟩ (c_X5_thrown l D cA e0 (lwA s) _ bm _ _ _ _ hY2) ⟨(callB_of 0 hts gi_X5_thrown rfl rfl rfl (hts _ q_ini_X5) (hts _ q_ml_L_72) hd_X5_thrown ⟨Nat.le_of_ble_eq_true rfl, Nat.le_of_ble_eq_true rfl⟩), hts _ q_im_X5_thrown, hts _ q_sel_X5_X5_thrown⟩ (xpV hE hS (hY2.main) rfl) rfl rfl hl.1 rfl (lv_room (Nat.le_of_ble_eq_true rfl)) dL_law_511 ⟨(show 24 + 9 * (t + 1) + 0 ≤ 601024 by omega), (show 4951 + 56 * (t + 1) + 0 ≤ 7293033 by omega)⟩) ?_
      refine xtop (show _ = nI 0 from thG_20 g 0) ?_
      refine lv_iload hx hb dL_law_514 (lv_at hl 1 rfl) ?_
      refine lv_icmp_eq (tgt := 521) hx hb dL_law_516 (by decide) (fun _ => ?_) (fun hno => absurd (rfl) hno)
      refine lv_iload hx hb dL_law_521 (lv_at hl 1 rfl) ?_
      refine lv_if_ne (tgt := 538) hx hb dL_law_523 (by decide) (fun hno => absurd hno (fun z => z rfl)) (fun _ => ?_)
      refine lv_aload_n hx hb dL_law_526 rfl (lv_at hl 3 rfl) ?_
      refine lv_iconst (v := nI 0) hx hb dL_law_527 (by decide) ?_
      refine va_lald hx hb hK (xP1 (hO2)) 0 1 rfl rfl (i := nI 0) (vp_in_nI (n := 0) (by omega) (by omega)) dL_law_528 ?_
      refine xtopL (show ((fun z => f1 (z)) (nI 0).toNatClampNeg) = f1 (0) from by rw [nI_clamp (n := 0) (by omega)]) ?_
      refine lv_iload hx hb dL_law_529 (lv_at hl 0 rfl) ?_
      refine lv_i2l (v := r8.toInt64) hx hb dL_law_531 rfl ?_
      refine W.lcmp hx hb dL_law_532 ?_
      refine xtop (show lg_cmp (f1 (0)) (r8.toInt64) = nI 0 from by rw [hcmp]; exact lg_self _) ?_
      refine lv_if_eq (tgt := 538) hx hb dL_law_533 (by decide) (fun _ => ?_) (fun hno => absurd (rfl) hno)
      refine lv_goto (tgt := 1185) hx hb dL_law_538 (by decide) ?_
      exact K _ _ _ _ _ _ _ (LI_eqY hLI hX2 (fun _ _ _ _ => rfl) hY2 (fun t9 a9 _ => thG_t g 0 a9) ⟨_, hO2⟩) hS (lv_sub hl [2, 3, 4, 5, 6] rfl)
    · exact (m1 p1).elim
  · rw [hr9]
    refine lv_istore (lv' := [(5, .int (nI 1)), (4, .int (nI (i))), (3, .ref (o)), (2, .ref (bm 0)), (1, .ref (ad 0 0)), (0, .ref (b))]) hx hb dL_law_484 hl (by decide) rfl (fun ls hl => ?_)
    refine lv_aload_n hx hb dL_law_486 rfl (lv_at hl 3 rfl) ?_
    refine lv_aload_n hx hb dL_law_487 rfl (lv_at hl 5 rfl) ?_
    refine lv_iload hx hb dL_law_488 (lv_at hl 1 rfl) ?_
    refine lv_iconst (v := nI 1) hx hb dL_law_490 (by decide) ?_
    refine lv_iadd hx hb dL_law_491 ?_
    refine xtop (show ((nI (i)) + (nI 1)) = nI (i + 1) from nI_add i 1) ?_
    refine va_sld hx hb hXs hbl hbA hS (i := nI (i + 1)) (vp_in_nI (n := i + 1) (by omega) (by omega)) dL_law_492 ?_
    refine xtop (show (xs (nI (i + 1)).toNatClampNeg) = xs (i + 1) from by rw [nI_clamp (n := i + 1) (by omega)]) ?_
    refine lv_aload_n hx hb dL_law_493 rfl (lv_at hl 5 rfl) ?_
    refine lv_iload hx hb dL_law_494 (lv_at hl 1 rfl) ?_
    refine lv_iconst (v := nI 2) hx hb dL_law_496 (by decide) ?_
    refine lv_iadd hx hb dL_law_497 ?_
    refine xtop (show ((nI (i)) + (nI 2)) = nI (i + 2) from nI_add i 2) ?_
    refine va_sld hx hb hXs hbl hbA hS (i := nI (i + 2)) (vp_in_nI (n := i + 2) (by omega) (by omega)) dL_law_498 ?_
    refine xtop (show (xs (nI (i + 2)).toNatClampNeg) = xs (i + 2) from by rw [nI_clamp (n := i + 2) (by omega)]) ?_
    refine lv_aload_n hx hb dL_law_499 rfl (lv_at hl 5 rfl) ?_
    refine lv_iload hx hb dL_law_500 (lv_at hl 1 rfl) ?_
    refine lv_iconst (v := nI 3) hx hb dL_law_502 (by decide) ?_
    refine lv_iadd hx hb dL_law_503 ?_
    refine xtop (show ((nI (i)) + (nI 3)) = nI (i + 3) from nI_add i 3) ?_
    refine va_sld hx hb hXs hbl hbA hS (i := nI (i + 3)) (vp_in_nI (n := i + 3) (by omega) (by omega)) dL_law_504 ?_
    refine xtop (show (xs (nI (i + 3)).toNatClampNeg) = xs (i + 3) from by rw [nI_clamp (n := i + 3) (by omega)]) ?_
    refine xci (va_runV (As := [.int (xs (i + 1)), .int (xs (i + 2)), .int (xs (i + 3))]) (rest := []) ⟨hx, hb, hml, hown, hts⟩ (c_X5_slot l D cA e0 (cM bm) H1 bm g tt (N 0) (N 1) hY1 hYA (xs (i + 1)) (xs (i + 2)) (xs (i + 3))) ⟨(callB_of 3 hts gi_X5_slot rfl rfl rfl (hts _ q_ini_X5) (hts _ q_ml_L_93) hd_X5_slot ⟨Nat.le_of_ble_eq_true rfl, Nat.le_of_ble_eq_true rfl⟩), hts _ q_im_X5_slot, hts _ q_sel_X5_X5_slot⟩ (xpVn hE hS hcM (hY1.main) rfl) rfl rfl hl.1 rfl (lv_room (Nat.le_of_ble_eq_true rfl)) dL_law_505 ⟨(show 24 + 9 * (t + 1) + 0 ≤ 601024 by omega), (show 4951 + 56 * (t + 1) + 0 ≤ 7293033 by omega)⟩) hS hcM (fun r8 H2 locs hQ9 hz8 hk8 hS => ?_)
    refine W.widen (k := 24 + 9 * (t + 1)) (n := 4951 + 56 * (t + 1)) (by omega) (by omega) ?_
    have hX2 := hX1.mod hAx hk8
    have hO2 := hO1.kept (hk8 _ hO1.lt hoM)
    rcases hQ9 with ⟨m1, hr2, hY2⟩ | ⟨m1, hY2⟩
    · exact (hc m1).elim
    · refine lv_istore (lv' := [(6, .int (r8)), (5, .int (nI 1)), (4, .int (nI (i))), (3, .ref (o)), (2, .ref (bm 0)), (1, .ref (ad 0 0)), (0, .ref (b))]) hx hb dL_law_508 hl (by decide) rfl (fun ls hl => ?_)
      refine lv_aload_n hx hb dL_law_510 rfl (lv_at hl 4 rfl) ?_
      refine xcRi (va_runV (As := []) (rest := []) ⟨hx, hb, hml, hown, hts⟩ (c_X5_thrown l D cA e0 (lwA s) _ bm _ _ _ _ hY2) ⟨(callB_of 0 hts gi_X5_thrown rfl rfl rfl (hts _ q_ini_X5) (hts _ q_ml_L_72) hd_X5_thrown ⟨Nat.le_of_ble_eq_true rfl, Nat.le_of_ble_eq_true rfl⟩), hts _ q_im_X5_thrown, hts _ q_sel_X5_X5_thrown⟩ (xpV hE hS (hY2.main) rfl) rfl rfl hl.1 rfl (lv_room (Nat.le_of_ble_eq_true rfl)) dL_law_511 ⟨(show 24 + 9 * (t + 1) + 0 ≤ 601024 by omega), (show 4951 + 56 * (t + 1) + 0 ≤ 7293033 by omega)⟩) ?_
      refine xtop (show _ = nI 1 from thG_20 g 1) ?_
      refine lv_iload hx hb dL_law_514 (lv_at hl 1 rfl) ?_
      refine lv_icmp_eq (tgt := 521) hx hb dL_law_516 (by decide) (fun _ => ?_) (fun hno => absurd (rfl) hno)
      refine lv_iload hx hb dL_law_521 (lv_at hl 1 rfl) ?_
      refine lv_if_ne (tgt := 538) hx hb dL_law_523 (by decide) (fun _ => ?_) (fun hno => absurd hno ((by decide)))
      refine lv_goto (tgt := 1185) hx hb dL_law_538 (by decide) ?_
      exact K _ _ _ _ _ _ _ (LI_eqY hLI hX2 (fun _ _ _ _ => rfl) hY2 (fun t9 a9 _ => thG_t g 1 a9) ⟨_, hO2⟩) hS (lv_sub hl [2, 3, 4, 5, 6] rfl)
set_option maxHeartbeats 4000000 in
set_option maxRecDepth 100000 in
/-- the law's call 6: machine -/
theorem law_c_6 {p : Program} {l : Launch} {e : Env} {s : State} {m : MethodId} {below : List Frame} {meth : Method} {c : Code} {b L : Nat} {xs : Nat → Int32} {D : va_G} {cA : Nat → ClassId} {e0 x0 o : Nat} {bm : Nat → Nat} (C : lwC p l s m meth c b L xs D cA e0 o bm) {i t : Nat} (hi : i + 5 ≤ L) (ht : t < 512) {ad : Nat → Nat → Nat} {g : Nat → Nat → Int32} {tt : Nat → Int64} {N : Nat → Nat} {H : Heap} {locs : List Loc} {ls : Array Slot} (hLI : LI D cA e0 s.heap.size x0 o bm ad g tt N H) (hS : va_S (lwA s) s.heap H locs) (hl : lv_has ls 9 [(4, .int (nI (i))), (3, .ref o), (2, .ref (bm 0)), (1, .ref x0), (0, .ref b)]) (K : lwK p l e s m below meth c b D cA e0 x0 o bm i t) : W p l e room_1 s m #[Value.ref b] below meth c H locs (24 + 9 * t) (4951 + 56 * t) (lw_Z below #[Value.ref b] s) (F0 m 541 ls []) := by
  obtain ⟨hx, hb, hr, hml, hown, hE, hNc, hXs, hbl, hlocks, hLb, hbm, hinj, ho, hob, hl9⟩ := C
  have hts := hE.1.all #[Value.ref b]
  have hK := hE.2.1
  obtain ⟨hX, hAx, hY, hI, hW, hdf, hN2, hdy, hP, hC, ⟨f0, hO⟩, rfl⟩ := id hLI
  have hn8 := hAx.n8
  have hbA : ¬ lwA s b := Nat.not_le.mpr hbl
  have hF : ∀ q, cF s.heap.size o bm q → cO s.heap.size o bm q := fun q h => Or.inl h
  have hFF : ∀ q, cF s.heap.size o bm q → lwA s q := fun q h => h.1
  have hFo : ∀ q, cO s.heap.size o bm q → lwA s q := fun q h => h.elim (fun z => z.1) (fun z => by rw [z]; exact ho)
  have hoF : ¬ cF s.heap.size o bm o := fun z => z.2.1 rfl
  have hcM : ∀ q, cM bm q → lwA s q := fun q ⟨j, hj, z⟩ => by rw [z]; exact hbm j hj
  have hbO : ∀ j, j < 14 → ¬ cO s.heap.size o bm (bm j) := fun j hj z => z.elim (fun z => z.2.2 j hj rfl) (fun z => hob j hj z.symm)
  have hoM : ¬ cM bm o := fun ⟨j, hj, z⟩ => hob j hj z
  have hYA : yA (cM bm) bm (N 0) (N 1) := ⟨hinj, fun j hj => ⟨j, hj, rfl⟩, hn8, hAx.2.2.2.2.2.2.2.1⟩
  have hAn : ∀ q, H.size ≤ q → cF s.heap.size o bm q := fun q hq => ⟨Nat.le_trans hS.1 hq, fun z => by have := hO.lt; omega, fun j hj z => by have := (hY j hj).lt; omega⟩
  refine lv_aload_n hx hb dL_law_541 rfl (lv_at hl 3 rfl) ?_
  refine lv_aload_n hx hb dL_law_542 rfl (lv_at hl 4 rfl) ?_
  refine lv_iload hx hb dL_law_543 (lv_at hl 0 rfl) ?_
  refine lv_iconst (v := nI 1) hx hb dL_law_545 (by decide) ?_
  refine lv_iadd hx hb dL_law_546 ?_
  refine xtop (show ((nI (i)) + (nI 1)) = nI (i + 1) from nI_add i 1) ?_
  refine va_sld hx hb hXs hbl hbA hS (i := nI (i + 1)) (vp_in_nI (n := i + 1) (by omega) (by omega)) dL_law_547 ?_
  refine xtop (show (xs (nI (i + 1)).toNatClampNeg) = xs (i + 1) from by rw [nI_clamp (n := i + 1) (by omega)]) ?_
  refine lv_aload_n hx hb dL_law_548 rfl (lv_at hl 4 rfl) ?_
  refine lv_iload hx hb dL_law_549 (lv_at hl 0 rfl) ?_
  refine lv_iconst (v := nI 2) hx hb dL_law_551 (by decide) ?_
  refine lv_iadd hx hb dL_law_552 ?_
  refine xtop (show ((nI (i)) + (nI 2)) = nI (i + 2) from nI_add i 2) ?_
  refine va_sld hx hb hXs hbl hbA hS (i := nI (i + 2)) (vp_in_nI (n := i + 2) (by omega) (by omega)) dL_law_553 ?_
  refine xtop (show (xs (nI (i + 2)).toNatClampNeg) = xs (i + 2) from by rw [nI_clamp (n := i + 2) (by omega)]) ?_
  refine lv_aload_n hx hb dL_law_554 rfl (lv_at hl 1 rfl) ?_
  refine xci (vx_runSW (As := [.ref (ad 0 0), .int (xs (i + 1)), .int (xs (i + 2)), .ref (o)]) (rest := []) ⟨hx, hb, hml, hown, hts⟩ (c_L_machine l D cA e0 (cO s.heap.size o bm) H ad g tt N hX (xs (i + 1)) (xs (i + 2)) (cF s.heap.size o bm) hF hAx  o f0 hO (Or.inr rfl) hoF hl9) (callSW_of 4 hts gi_L_machine rfl rfl rfl (hts _ q_ini_L) (hts _ q_ml_L_94) (hts _ q_st_L_machine) hd_L_machine ⟨Nat.le_of_ble_eq_true rfl, Nat.le_of_ble_eq_true rfl⟩) (xpSw hE hNc hS hFo) rfl rfl hl.1 rfl (lv_room (Nat.le_of_ble_eq_true rfl)) dL_law_555 ⟨(show 24 + 9 * t + 2 ≤ 601024 by omega), (show 4951 + 56 * t + 12 ≤ 7293033 by omega)⟩) hS hFo (fun r9 H1 locs hP9 hz9 hk9 hS => ?_)
  refine W.widen (k := 24 + 9 * (t + 1)) (n := 4951 + 56 * (t + 1)) (by omega) (by omega) ?_
  have hY1 : yW D cA bm g tt (N 0) (N 1) H1 := hY.keep (fun j hj => hk9 _ (hY j hj).lt (hbO j hj))
  rcases hP9 with ⟨hr9, f1, hO1, p1, hf1, hX1⟩ | ⟨hr9, hc, hX1, hO1⟩
  · rw [hr9]
    refine lv_istore (lv' := [(5, .int (nI 0)), (4, .int (nI (i))), (3, .ref (o)), (2, .ref (bm 0)), (1, .ref (ad 0 0)), (0, .ref (b))]) hx hb dL_law_558 hl (by decide) rfl (fun ls hl => ?_)
    refine lv_aload_n hx hb dL_law_560 rfl (lv_at hl 3 rfl) ?_
    refine lv_aload_n hx hb dL_law_561 rfl (lv_at hl 5 rfl) ?_
    refine lv_iload hx hb dL_law_562 (lv_at hl 1 rfl) ?_
    refine lv_iconst (v := nI 1) hx hb dL_law_564 (by decide) ?_
    refine lv_iadd hx hb dL_law_565 ?_
    refine xtop (show ((nI (i)) + (nI 1)) = nI (i + 1) from nI_add i 1) ?_
    refine va_sld hx hb hXs hbl hbA hS (i := nI (i + 1)) (vp_in_nI (n := i + 1) (by omega) (by omega)) dL_law_566 ?_
    refine xtop (show (xs (nI (i + 1)).toNatClampNeg) = xs (i + 1) from by rw [nI_clamp (n := i + 1) (by omega)]) ?_
    refine lv_aload_n hx hb dL_law_567 rfl (lv_at hl 5 rfl) ?_
    refine lv_iload hx hb dL_law_568 (lv_at hl 1 rfl) ?_
    refine lv_iconst (v := nI 2) hx hb dL_law_570 (by decide) ?_
    refine lv_iadd hx hb dL_law_571 ?_
    refine xtop (show ((nI (i)) + (nI 2)) = nI (i + 2) from nI_add i 2) ?_
    refine va_sld hx hb hXs hbl hbA hS (i := nI (i + 2)) (vp_in_nI (n := i + 2) (by omega) (by omega)) dL_law_572 ?_
    refine xtop (show (xs (nI (i + 2)).toNatClampNeg) = xs (i + 2) from by rw [nI_clamp (n := i + 2) (by omega)]) ?_
    refine xci (va_runV (As := [.int (xs (i + 1)), .int (xs (i + 2))]) (rest := []) ⟨hx, hb, hml, hown, hts⟩ (c_X5_machine l D cA e0 (cM bm) H1 bm g tt (N 0) (N 1) hY1 hYA (xs (i + 1)) (xs (i + 2))) ⟨(callB_of 2 hts gi_X5_machine rfl rfl rfl (hts _ q_ini_X5) (hts _ q_ml_L_97) hd_X5_machine ⟨Nat.le_of_ble_eq_true rfl, Nat.le_of_ble_eq_true rfl⟩), hts _ q_im_X5_machine, hts _ q_sel_X5_X5_machine⟩ (xpVn hE hS hcM (hY1.main) rfl) rfl rfl hl.1 rfl (lv_room (Nat.le_of_ble_eq_true rfl)) dL_law_573 ⟨(show 24 + 9 * (t + 1) + 0 ≤ 601024 by omega), (show 4951 + 56 * (t + 1) + 0 ≤ 7293033 by omega)⟩) hS hcM (fun r8 H2 locs hQ9 hz8 hk8 hS => ?_)
    refine W.widen (k := 24 + 9 * (t + 1)) (n := 4951 + 56 * (t + 1)) (by omega) (by omega) ?_
    have hX2 := hX1.mod hAx hk8
    have hO2 := hO1.kept (hk8 _ hO1.lt hoM)
    rcases hQ9 with ⟨m1, hr2, hY2⟩ | ⟨m1, hY2⟩
    · have hcmp : f1 0 = r8.toInt64 := by rw [hf1, hr2]
      refine lv_istore (lv' := [(6, .int (r8)), (5, .int (nI 0)), (4, .int (nI (i))), (3, .ref (o)), (2, .ref (bm 0)), (1, .ref (ad 0 0)), (0, .ref (b))]) hx hb dL_law_576 hl (by decide) rfl (fun ls hl => ?_)
      refine lv_aload_n hx hb dL_law_578 rfl (lv_at hl 4 rfl) ?_
      refine xcRi (va_runV (As := []) (rest := []) ⟨hx, hb, hml, hown, hts⟩ (c_X5_thrown l D cA e0 (lwA s) _ bm _ _ _ _ hY2) ⟨(callB_of 0 hts gi_X5_thrown rfl rfl rfl (hts _ q_ini_X5) (hts _ q_ml_L_72) hd_X5_thrown ⟨Nat.le_of_ble_eq_true rfl, Nat.le_of_ble_eq_true rfl⟩), hts _ q_im_X5_thrown, hts _ q_sel_X5_X5_thrown⟩ (xpV hE hS (hY2.main) rfl) rfl rfl hl.1 rfl (lv_room (Nat.le_of_ble_eq_true rfl)) dL_law_579 ⟨(show 24 + 9 * (t + 1) + 0 ≤ 601024 by omega), (show 4951 + 56 * (t + 1) + 0 ≤ 7293033 by omega)⟩) ?_
      refine xtop (show _ = nI 0 from thG_20 g 0) ?_
      refine lv_iload hx hb dL_law_582 (lv_at hl 1 rfl) ?_
      refine lv_icmp_eq (tgt := 589) hx hb dL_law_584 (by decide) (fun _ => ?_) (fun hno => absurd (rfl) hno)
      refine lv_iload hx hb dL_law_589 (lv_at hl 1 rfl) ?_
      refine lv_if_ne (tgt := 606) hx hb dL_law_591 (by decide) (fun hno => absurd hno (fun z => z rfl)) (fun _ => ?_)
      refine lv_aload_n hx hb dL_law_594 rfl (lv_at hl 3 rfl) ?_
      refine lv_iconst (v := nI 0) hx hb dL_law_595 (by decide) ?_
      refine va_lald hx hb hK (xP1 (hO2)) 0 1 rfl rfl (i := nI 0) (vp_in_nI (n := 0) (by omega) (by omega)) dL_law_596 ?_
      refine xtopL (show ((fun z => f1 (z)) (nI 0).toNatClampNeg) = f1 (0) from by rw [nI_clamp (n := 0) (by omega)]) ?_
      refine lv_iload hx hb dL_law_597 (lv_at hl 0 rfl) ?_
      refine lv_i2l (v := r8.toInt64) hx hb dL_law_599 rfl ?_
      refine W.lcmp hx hb dL_law_600 ?_
      refine xtop (show lg_cmp (f1 (0)) (r8.toInt64) = nI 0 from by rw [hcmp]; exact lg_self _) ?_
      refine lv_if_eq (tgt := 606) hx hb dL_law_601 (by decide) (fun _ => ?_) (fun hno => absurd (rfl) hno)
      refine lv_goto (tgt := 1185) hx hb dL_law_606 (by decide) ?_
      exact K _ _ _ _ _ _ _ (LI_eqY hLI hX2 (fun _ _ _ _ => rfl) hY2 (fun t9 a9 _ => thG_t g 0 a9) ⟨_, hO2⟩) hS (lv_sub hl [2, 3, 4, 5, 6] rfl)
    · exact (m1 p1).elim
  · rw [hr9]
    refine lv_istore (lv' := [(5, .int (nI 1)), (4, .int (nI (i))), (3, .ref (o)), (2, .ref (bm 0)), (1, .ref (ad 0 0)), (0, .ref (b))]) hx hb dL_law_558 hl (by decide) rfl (fun ls hl => ?_)
    refine lv_aload_n hx hb dL_law_560 rfl (lv_at hl 3 rfl) ?_
    refine lv_aload_n hx hb dL_law_561 rfl (lv_at hl 5 rfl) ?_
    refine lv_iload hx hb dL_law_562 (lv_at hl 1 rfl) ?_
    refine lv_iconst (v := nI 1) hx hb dL_law_564 (by decide) ?_
    refine lv_iadd hx hb dL_law_565 ?_
    refine xtop (show ((nI (i)) + (nI 1)) = nI (i + 1) from nI_add i 1) ?_
    refine va_sld hx hb hXs hbl hbA hS (i := nI (i + 1)) (vp_in_nI (n := i + 1) (by omega) (by omega)) dL_law_566 ?_
    refine xtop (show (xs (nI (i + 1)).toNatClampNeg) = xs (i + 1) from by rw [nI_clamp (n := i + 1) (by omega)]) ?_
    refine lv_aload_n hx hb dL_law_567 rfl (lv_at hl 5 rfl) ?_
    refine lv_iload hx hb dL_law_568 (lv_at hl 1 rfl) ?_
    refine lv_iconst (v := nI 2) hx hb dL_law_570 (by decide) ?_
    refine lv_iadd hx hb dL_law_571 ?_
    refine xtop (show ((nI (i)) + (nI 2)) = nI (i + 2) from nI_add i 2) ?_
    refine va_sld hx hb hXs hbl hbA hS (i := nI (i + 2)) (vp_in_nI (n := i + 2) (by omega) (by omega)) dL_law_572 ?_
    refine xtop (show (xs (nI (i + 2)).toNatClampNeg) = xs (i + 2) from by rw [nI_clamp (n := i + 2) (by omega)]) ?_
    refine xci (va_runV (As := [.int (xs (i + 1)), .int (xs (i + 2))]) (rest := []) ⟨hx, hb, hml, hown, hts⟩ (c_X5_machine l D cA e0 (cM bm) H1 bm g tt (N 0) (N 1) hY1 hYA (xs (i + 1)) (xs (i + 2))) ⟨(callB_of 2 hts gi_X5_machine rfl rfl rfl (hts _ q_ini_X5) (hts _ q_ml_L_97) hd_X5_machine ⟨Nat.le_of_ble_eq_true rfl, Nat.le_of_ble_eq_true rfl⟩), hts _ q_im_X5_machine, hts _ q_sel_X5_X5_machine⟩ (xpVn hE hS hcM (hY1.main) rfl) rfl rfl hl.1 rfl (lv_room (Nat.le_of_ble_eq_true rfl)) dL_law_573 ⟨(show 24 + 9 * (t + 1) + 0 ≤ 601024 by omega), (show 4951 + 56 * (t + 1) + 0 ≤ 7293033 by omega)⟩) hS hcM (fun r8 H2 locs hQ9 hz8 hk8 hS => ?_)
    refine W.widen (k := 24 + 9 * (t + 1)) (n := 4951 + 56 * (t + 1)) (by omega) (by omega) ?_
    have hX2 := hX1.mod hAx hk8
    have hO2 := hO1.kept (hk8 _ hO1.lt hoM)
    rcases hQ9 with ⟨m1, hr2, hY2⟩ | ⟨m1, hY2⟩
    · exact (hc m1).elim
    · refine lv_istore (lv' := [(6, .int (r8)), (5, .int (nI 1)), (4, .int (nI (i))), (3, .ref (o)), (2, .ref (bm 0)), (1, .ref (ad 0 0)), (0, .ref (b))]) hx hb dL_law_576 hl (by decide) rfl (fun ls hl => ?_)
      refine lv_aload_n hx hb dL_law_578 rfl (lv_at hl 4 rfl) ?_
      refine xcRi (va_runV (As := []) (rest := []) ⟨hx, hb, hml, hown, hts⟩ (c_X5_thrown l D cA e0 (lwA s) _ bm _ _ _ _ hY2) ⟨(callB_of 0 hts gi_X5_thrown rfl rfl rfl (hts _ q_ini_X5) (hts _ q_ml_L_72) hd_X5_thrown ⟨Nat.le_of_ble_eq_true rfl, Nat.le_of_ble_eq_true rfl⟩), hts _ q_im_X5_thrown, hts _ q_sel_X5_X5_thrown⟩ (xpV hE hS (hY2.main) rfl) rfl rfl hl.1 rfl (lv_room (Nat.le_of_ble_eq_true rfl)) dL_law_579 ⟨(show 24 + 9 * (t + 1) + 0 ≤ 601024 by omega), (show 4951 + 56 * (t + 1) + 0 ≤ 7293033 by omega)⟩) ?_
      refine xtop (show _ = nI 1 from thG_20 g 1) ?_
      refine lv_iload hx hb dL_law_582 (lv_at hl 1 rfl) ?_
      refine lv_icmp_eq (tgt := 589) hx hb dL_law_584 (by decide) (fun _ => ?_) (fun hno => absurd (rfl) hno)
      refine lv_iload hx hb dL_law_589 (lv_at hl 1 rfl) ?_
      refine lv_if_ne (tgt := 606) hx hb dL_law_591 (by decide) (fun _ => ?_) (fun hno => absurd hno ((by decide)))
      refine lv_goto (tgt := 1185) hx hb dL_law_606 (by decide) ?_
      exact K _ _ _ _ _ _ _ (LI_eqY hLI hX2 (fun _ _ _ _ => rfl) hY2 (fun t9 a9 _ => thG_t g 1 a9) ⟨_, hO2⟩) hS (lv_sub hl [2, 3, 4, 5, 6] rfl)
set_option maxHeartbeats 4000000 in
set_option maxRecDepth 100000 in
/-- the law's call 7: runsOut -/
theorem law_c_7 {p : Program} {l : Launch} {e : Env} {s : State} {m : MethodId} {below : List Frame} {meth : Method} {c : Code} {b L : Nat} {xs : Nat → Int32} {D : va_G} {cA : Nat → ClassId} {e0 x0 o : Nat} {bm : Nat → Nat} (C : lwC p l s m meth c b L xs D cA e0 o bm) {i t : Nat} (hi : i + 5 ≤ L) (ht : t < 512) {ad : Nat → Nat → Nat} {g : Nat → Nat → Int32} {tt : Nat → Int64} {N : Nat → Nat} {H : Heap} {locs : List Loc} {ls : Array Slot} (hLI : LI D cA e0 s.heap.size x0 o bm ad g tt N H) (hS : va_S (lwA s) s.heap H locs) (hl : lv_has ls 9 [(4, .int (nI (i))), (3, .ref o), (2, .ref (bm 0)), (1, .ref x0), (0, .ref b)]) (K : lwK p l e s m below meth c b D cA e0 x0 o bm i t) : W p l e room_1 s m #[Value.ref b] below meth c H locs (24 + 9 * t) (4951 + 56 * t) (lw_Z below #[Value.ref b] s) (F0 m 609 ls []) := by
  obtain ⟨hx, hb, hr, hml, hown, hE, hNc, hXs, hbl, hlocks, hLb, hbm, hinj, ho, hob, hl9⟩ := C
  have hts := hE.1.all #[Value.ref b]
  have hK := hE.2.1
  obtain ⟨hX, hAx, hY, hI, hW, hdf, hN2, hdy, hP, hC, ⟨f0, hO⟩, rfl⟩ := id hLI
  have hn8 := hAx.n8
  have hbA : ¬ lwA s b := Nat.not_le.mpr hbl
  have hF : ∀ q, cF s.heap.size o bm q → cO s.heap.size o bm q := fun q h => Or.inl h
  have hFF : ∀ q, cF s.heap.size o bm q → lwA s q := fun q h => h.1
  have hFo : ∀ q, cO s.heap.size o bm q → lwA s q := fun q h => h.elim (fun z => z.1) (fun z => by rw [z]; exact ho)
  have hoF : ¬ cF s.heap.size o bm o := fun z => z.2.1 rfl
  have hcM : ∀ q, cM bm q → lwA s q := fun q ⟨j, hj, z⟩ => by rw [z]; exact hbm j hj
  have hbO : ∀ j, j < 14 → ¬ cO s.heap.size o bm (bm j) := fun j hj z => z.elim (fun z => z.2.2 j hj rfl) (fun z => hob j hj z.symm)
  have hoM : ¬ cM bm o := fun ⟨j, hj, z⟩ => hob j hj z
  have hYA : yA (cM bm) bm (N 0) (N 1) := ⟨hinj, fun j hj => ⟨j, hj, rfl⟩, hn8, hAx.2.2.2.2.2.2.2.1⟩
  have hAn : ∀ q, H.size ≤ q → cF s.heap.size o bm q := fun q hq => ⟨Nat.le_trans hS.1 hq, fun z => by have := hO.lt; omega, fun j hj z => by have := (hY j hj).lt; omega⟩
  refine lv_aload_n hx hb dL_law_609 rfl (lv_at hl 3 rfl) ?_
  refine lv_aload_n hx hb dL_law_610 rfl (lv_at hl 4 rfl) ?_
  refine lv_iload hx hb dL_law_611 (lv_at hl 0 rfl) ?_
  refine lv_iconst (v := nI 1) hx hb dL_law_613 (by decide) ?_
  refine lv_iadd hx hb dL_law_614 ?_
  refine xtop (show ((nI (i)) + (nI 1)) = nI (i + 1) from nI_add i 1) ?_
  refine va_sld hx hb hXs hbl hbA hS (i := nI (i + 1)) (vp_in_nI (n := i + 1) (by omega) (by omega)) dL_law_615 ?_
  refine xtop (show (xs (nI (i + 1)).toNatClampNeg) = xs (i + 1) from by rw [nI_clamp (n := i + 1) (by omega)]) ?_
  refine lv_aload_n hx hb dL_law_616 rfl (lv_at hl 4 rfl) ?_
  refine lv_iload hx hb dL_law_617 (lv_at hl 0 rfl) ?_
  refine lv_iconst (v := nI 2) hx hb dL_law_619 (by decide) ?_
  refine lv_iadd hx hb dL_law_620 ?_
  refine xtop (show ((nI (i)) + (nI 2)) = nI (i + 2) from nI_add i 2) ?_
  refine va_sld hx hb hXs hbl hbA hS (i := nI (i + 2)) (vp_in_nI (n := i + 2) (by omega) (by omega)) dL_law_621 ?_
  refine xtop (show (xs (nI (i + 2)).toNatClampNeg) = xs (i + 2) from by rw [nI_clamp (n := i + 2) (by omega)]) ?_
  refine lv_aload_n hx hb dL_law_622 rfl (lv_at hl 1 rfl) ?_
  refine xci (vx_runSW (As := [.ref (ad 0 0), .int (xs (i + 1)), .int (xs (i + 2)), .ref (o)]) (rest := []) ⟨hx, hb, hml, hown, hts⟩ (c_L_runsOut l D cA e0 (cO s.heap.size o bm) H ad g tt N hX (xs (i + 1)) (xs (i + 2)) (cF s.heap.size o bm) hF hAx  o f0 hO (Or.inr rfl) hoF hl9) (callSW_of 4 hts gi_L_runsOut rfl rfl rfl (hts _ q_ini_L) (hts _ q_ml_L_98) (hts _ q_st_L_runsOut) hd_L_runsOut ⟨Nat.le_of_ble_eq_true rfl, Nat.le_of_ble_eq_true rfl⟩) (xpSw hE hNc hS hFo) rfl rfl hl.1 rfl (lv_room (Nat.le_of_ble_eq_true rfl)) dL_law_623 ⟨(show 24 + 9 * t + 2 ≤ 601024 by omega), (show 4951 + 56 * t + 12 ≤ 7293033 by omega)⟩) hS hFo (fun r9 H1 locs hP9 hz9 hk9 hS => ?_)
  refine W.widen (k := 24 + 9 * (t + 1)) (n := 4951 + 56 * (t + 1)) (by omega) (by omega) ?_
  have hY1 : yW D cA bm g tt (N 0) (N 1) H1 := hY.keep (fun j hj => hk9 _ (hY j hj).lt (hbO j hj))
  rcases hP9 with ⟨hr9, f1, hO1, p1, hf1, hX1⟩ | ⟨hr9, hc, hX1, hO1⟩
  · rw [hr9]
    refine lv_istore (lv' := [(5, .int (nI 0)), (4, .int (nI (i))), (3, .ref (o)), (2, .ref (bm 0)), (1, .ref (ad 0 0)), (0, .ref (b))]) hx hb dL_law_626 hl (by decide) rfl (fun ls hl => ?_)
    refine lv_aload_n hx hb dL_law_628 rfl (lv_at hl 3 rfl) ?_
    refine lv_aload_n hx hb dL_law_629 rfl (lv_at hl 5 rfl) ?_
    refine lv_iload hx hb dL_law_630 (lv_at hl 1 rfl) ?_
    refine lv_iconst (v := nI 1) hx hb dL_law_632 (by decide) ?_
    refine lv_iadd hx hb dL_law_633 ?_
    refine xtop (show ((nI (i)) + (nI 1)) = nI (i + 1) from nI_add i 1) ?_
    refine va_sld hx hb hXs hbl hbA hS (i := nI (i + 1)) (vp_in_nI (n := i + 1) (by omega) (by omega)) dL_law_634 ?_
    refine xtop (show (xs (nI (i + 1)).toNatClampNeg) = xs (i + 1) from by rw [nI_clamp (n := i + 1) (by omega)]) ?_
    refine lv_aload_n hx hb dL_law_635 rfl (lv_at hl 5 rfl) ?_
    refine lv_iload hx hb dL_law_636 (lv_at hl 1 rfl) ?_
    refine lv_iconst (v := nI 2) hx hb dL_law_638 (by decide) ?_
    refine lv_iadd hx hb dL_law_639 ?_
    refine xtop (show ((nI (i)) + (nI 2)) = nI (i + 2) from nI_add i 2) ?_
    refine va_sld hx hb hXs hbl hbA hS (i := nI (i + 2)) (vp_in_nI (n := i + 2) (by omega) (by omega)) dL_law_640 ?_
    refine xtop (show (xs (nI (i + 2)).toNatClampNeg) = xs (i + 2) from by rw [nI_clamp (n := i + 2) (by omega)]) ?_
    refine xci (va_runV (As := [.int (xs (i + 1)), .int (xs (i + 2))]) (rest := []) ⟨hx, hb, hml, hown, hts⟩ (c_X5_runsOut l D cA e0 (cM bm) H1 bm g tt (N 0) (N 1) hY1 hYA hI (xs (i + 1)) (xs (i + 2))) ⟨(callB_of 2 hts gi_X5_runsOut rfl rfl rfl (hts _ q_ini_X5) (hts _ q_ml_L_100) hd_X5_runsOut ⟨Nat.le_of_ble_eq_true rfl, Nat.le_of_ble_eq_true rfl⟩), hts _ q_im_X5_runsOut, hts _ q_sel_X5_X5_runsOut⟩ (xpVn hE hS hcM (hY1.main) rfl) rfl rfl hl.1 rfl (lv_room (Nat.le_of_ble_eq_true rfl)) dL_law_641 ⟨(show 24 + 9 * (t + 1) + 0 ≤ 601024 by omega), (show 4951 + 56 * (t + 1) + 0 ≤ 7293033 by omega)⟩) hS hcM (fun r8 H2 locs hQ9 hz8 hk8 hS => ?_)
    refine W.widen (k := 24 + 9 * (t + 1)) (n := 4951 + 56 * (t + 1)) (by omega) (by omega) ?_
    have hX2 := hX1.mod hAx hk8
    have hO2 := hO1.kept (hk8 _ hO1.lt hoM)
    rcases hQ9 with ⟨m1, hr2, hY2⟩ | ⟨m1, hY2⟩
    · have hcmp : f1 0 = r8.toInt64 := by rw [hf1, hr2]
      refine lv_istore (lv' := [(6, .int (r8)), (5, .int (nI 0)), (4, .int (nI (i))), (3, .ref (o)), (2, .ref (bm 0)), (1, .ref (ad 0 0)), (0, .ref (b))]) hx hb dL_law_644 hl (by decide) rfl (fun ls hl => ?_)
      refine lv_aload_n hx hb dL_law_646 rfl (lv_at hl 4 rfl) ?_
      refine xcRi (va_runV (As := []) (rest := []) ⟨hx, hb, hml, hown, hts⟩ (c_X5_thrown l D cA e0 (lwA s) _ bm _ _ _ _ hY2) ⟨(callB_of 0 hts gi_X5_thrown rfl rfl rfl (hts _ q_ini_X5) (hts _ q_ml_L_72) hd_X5_thrown ⟨Nat.le_of_ble_eq_true rfl, Nat.le_of_ble_eq_true rfl⟩), hts _ q_im_X5_thrown, hts _ q_sel_X5_X5_thrown⟩ (xpV hE hS (hY2.main) rfl) rfl rfl hl.1 rfl (lv_room (Nat.le_of_ble_eq_true rfl)) dL_law_647 ⟨(show 24 + 9 * (t + 1) + 0 ≤ 601024 by omega), (show 4951 + 56 * (t + 1) + 0 ≤ 7293033 by omega)⟩) ?_
      refine xtop (show _ = nI 0 from thG_20 g 0) ?_
      refine lv_iload hx hb dL_law_650 (lv_at hl 1 rfl) ?_
      refine lv_icmp_eq (tgt := 657) hx hb dL_law_652 (by decide) (fun _ => ?_) (fun hno => absurd (rfl) hno)
      refine lv_iload hx hb dL_law_657 (lv_at hl 1 rfl) ?_
      refine lv_if_ne (tgt := 674) hx hb dL_law_659 (by decide) (fun hno => absurd hno (fun z => z rfl)) (fun _ => ?_)
      refine lv_aload_n hx hb dL_law_662 rfl (lv_at hl 3 rfl) ?_
      refine lv_iconst (v := nI 0) hx hb dL_law_663 (by decide) ?_
      refine va_lald hx hb hK (xP1 (hO2)) 0 1 rfl rfl (i := nI 0) (vp_in_nI (n := 0) (by omega) (by omega)) dL_law_664 ?_
      refine xtopL (show ((fun z => f1 (z)) (nI 0).toNatClampNeg) = f1 (0) from by rw [nI_clamp (n := 0) (by omega)]) ?_
      refine lv_iload hx hb dL_law_665 (lv_at hl 0 rfl) ?_
      refine lv_i2l (v := r8.toInt64) hx hb dL_law_667 rfl ?_
      refine W.lcmp hx hb dL_law_668 ?_
      refine xtop (show lg_cmp (f1 (0)) (r8.toInt64) = nI 0 from by rw [hcmp]; exact lg_self _) ?_
      refine lv_if_eq (tgt := 674) hx hb dL_law_669 (by decide) (fun _ => ?_) (fun hno => absurd (rfl) hno)
      refine lv_goto (tgt := 1185) hx hb dL_law_674 (by decide) ?_
      exact K _ _ _ _ _ _ _ (LI_eqY hLI hX2 (fun _ _ _ _ => rfl) hY2 (fun t9 a9 _ => thG_t g 0 a9) ⟨_, hO2⟩) hS (lv_sub hl [2, 3, 4, 5, 6] rfl)
    · exact (m1 p1).elim
  · rw [hr9]
    refine lv_istore (lv' := [(5, .int (nI 1)), (4, .int (nI (i))), (3, .ref (o)), (2, .ref (bm 0)), (1, .ref (ad 0 0)), (0, .ref (b))]) hx hb dL_law_626 hl (by decide) rfl (fun ls hl => ?_)
    refine lv_aload_n hx hb dL_law_628 rfl (lv_at hl 3 rfl) ?_
    refine lv_aload_n hx hb dL_law_629 rfl (lv_at hl 5 rfl) ?_
    refine lv_iload hx hb dL_law_630 (lv_at hl 1 rfl) ?_
    refine lv_iconst (v := nI 1) hx hb dL_law_632 (by decide) ?_
    refine lv_iadd hx hb dL_law_633 ?_
    refine xtop (show ((nI (i)) + (nI 1)) = nI (i + 1) from nI_add i 1) ?_
    refine va_sld hx hb hXs hbl hbA hS (i := nI (i + 1)) (vp_in_nI (n := i + 1) (by omega) (by omega)) dL_law_634 ?_
    refine xtop (show (xs (nI (i + 1)).toNatClampNeg) = xs (i + 1) from by rw [nI_clamp (n := i + 1) (by omega)]) ?_
    refine lv_aload_n hx hb dL_law_635 rfl (lv_at hl 5 rfl) ?_
    refine lv_iload hx hb dL_law_636 (lv_at hl 1 rfl) ?_
    refine lv_iconst (v := nI 2) hx hb dL_law_638 (by decide) ?_
    refine lv_iadd hx hb dL_law_639 ?_
    refine xtop (show ((nI (i)) + (nI 2)) = nI (i + 2) from nI_add i 2) ?_
    refine va_sld hx hb hXs hbl hbA hS (i := nI (i + 2)) (vp_in_nI (n := i + 2) (by omega) (by omega)) dL_law_640 ?_
    refine xtop (show (xs (nI (i + 2)).toNatClampNeg) = xs (i + 2) from by rw [nI_clamp (n := i + 2) (by omega)]) ?_
    refine xci (va_runV (As := [.int (xs (i + 1)), .int (xs (i + 2))]) (rest := []) ⟨hx, hb, hml, hown, hts⟩ (c_X5_runsOut l D cA e0 (cM bm) H1 bm g tt (N 0) (N 1) hY1 hYA hI (xs (i + 1)) (xs (i + 2))) ⟨(callB_of 2 hts gi_X5_runsOut rfl rfl rfl (hts _ q_ini_X5) (hts _ q_ml_L_100) hd_X5_runsOut ⟨Nat.le_of_ble_eq_true rfl, Nat.le_of_ble_eq_true rfl⟩), hts _ q_im_X5_runsOut, hts _ q_sel_X5_X5_runsOut⟩ (xpVn hE hS hcM (hY1.main) rfl) rfl rfl hl.1 rfl (lv_room (Nat.le_of_ble_eq_true rfl)) dL_law_641 ⟨(show 24 + 9 * (t + 1) + 0 ≤ 601024 by omega), (show 4951 + 56 * (t + 1) + 0 ≤ 7293033 by omega)⟩) hS hcM (fun r8 H2 locs hQ9 hz8 hk8 hS => ?_)
    refine W.widen (k := 24 + 9 * (t + 1)) (n := 4951 + 56 * (t + 1)) (by omega) (by omega) ?_
    have hX2 := hX1.mod hAx hk8
    have hO2 := hO1.kept (hk8 _ hO1.lt hoM)
    rcases hQ9 with ⟨m1, hr2, hY2⟩ | ⟨m1, hY2⟩
    · exact (hc m1).elim
    · refine lv_istore (lv' := [(6, .int (r8)), (5, .int (nI 1)), (4, .int (nI (i))), (3, .ref (o)), (2, .ref (bm 0)), (1, .ref (ad 0 0)), (0, .ref (b))]) hx hb dL_law_644 hl (by decide) rfl (fun ls hl => ?_)
      refine lv_aload_n hx hb dL_law_646 rfl (lv_at hl 4 rfl) ?_
      refine xcRi (va_runV (As := []) (rest := []) ⟨hx, hb, hml, hown, hts⟩ (c_X5_thrown l D cA e0 (lwA s) _ bm _ _ _ _ hY2) ⟨(callB_of 0 hts gi_X5_thrown rfl rfl rfl (hts _ q_ini_X5) (hts _ q_ml_L_72) hd_X5_thrown ⟨Nat.le_of_ble_eq_true rfl, Nat.le_of_ble_eq_true rfl⟩), hts _ q_im_X5_thrown, hts _ q_sel_X5_X5_thrown⟩ (xpV hE hS (hY2.main) rfl) rfl rfl hl.1 rfl (lv_room (Nat.le_of_ble_eq_true rfl)) dL_law_647 ⟨(show 24 + 9 * (t + 1) + 0 ≤ 601024 by omega), (show 4951 + 56 * (t + 1) + 0 ≤ 7293033 by omega)⟩) ?_
      refine xtop (show _ = nI 1 from thG_20 g 1) ?_
      refine lv_iload hx hb dL_law_650 (lv_at hl 1 rfl) ?_
      refine lv_icmp_eq (tgt := 657) hx hb dL_law_652 (by decide) (fun _ => ?_) (fun hno => absurd (rfl) hno)
      refine lv_iload hx hb dL_law_657 (lv_at hl 1 rfl) ?_
      refine lv_if_ne (tgt := 674) hx hb dL_law_659 (by decide) (fun _ => ?_) (fun hno => absurd hno ((by decide)))
      refine lv_goto (tgt := 1185) hx hb dL_law_674 (by decide) ?_
      exact K _ _ _ _ _ _ _ (LI_eqY hLI hX2 (fun _ _ _ _ => rfl) hY2 (fun t9 a9 _ => thG_t g 1 a9) ⟨_, hO2⟩) hS (lv_sub hl [2, 3, 4, 5, 6] rfl)
set_option maxHeartbeats 4000000 in
set_option maxRecDepth 100000 in
/-- the law's call 8: pass -/
theorem law_c_8 {p : Program} {l : Launch} {e : Env} {s : State} {m : MethodId} {below : List Frame} {meth : Method} {c : Code} {b L : Nat} {xs : Nat → Int32} {D : va_G} {cA : Nat → ClassId} {e0 x0 o : Nat} {bm : Nat → Nat} (C : lwC p l s m meth c b L xs D cA e0 o bm) {i t : Nat} (hi : i + 5 ≤ L) (ht : t < 512) {ad : Nat → Nat → Nat} {g : Nat → Nat → Int32} {tt : Nat → Int64} {N : Nat → Nat} {H : Heap} {locs : List Loc} {ls : Array Slot} (hLI : LI D cA e0 s.heap.size x0 o bm ad g tt N H) (hS : va_S (lwA s) s.heap H locs) (hl : lv_has ls 9 [(4, .int (nI (i))), (3, .ref o), (2, .ref (bm 0)), (1, .ref x0), (0, .ref b)]) (K : lwK p l e s m below meth c b D cA e0 x0 o bm i t) : W p l e room_1 s m #[Value.ref b] below meth c H locs (24 + 9 * t) (4951 + 56 * t) (lw_Z below #[Value.ref b] s) (F0 m 677 ls []) := by
  obtain ⟨hx, hb, hr, hml, hown, hE, hNc, hXs, hbl, hlocks, hLb, hbm, hinj, ho, hob, hl9⟩ := C
  have hts := hE.1.all #[Value.ref b]
  have hK := hE.2.1
  obtain ⟨hX, hAx, hY, hI, hW, hdf, hN2, hdy, hP, hC, ⟨f0, hO⟩, rfl⟩ := id hLI
  have hn8 := hAx.n8
  have hbA : ¬ lwA s b := Nat.not_le.mpr hbl
  have hF : ∀ q, cF s.heap.size o bm q → cO s.heap.size o bm q := fun q h => Or.inl h
  have hFF : ∀ q, cF s.heap.size o bm q → lwA s q := fun q h => h.1
  have hFo : ∀ q, cO s.heap.size o bm q → lwA s q := fun q h => h.elim (fun z => z.1) (fun z => by rw [z]; exact ho)
  have hoF : ¬ cF s.heap.size o bm o := fun z => z.2.1 rfl
  have hcM : ∀ q, cM bm q → lwA s q := fun q ⟨j, hj, z⟩ => by rw [z]; exact hbm j hj
  have hbO : ∀ j, j < 14 → ¬ cO s.heap.size o bm (bm j) := fun j hj z => z.elim (fun z => z.2.2 j hj rfl) (fun z => hob j hj z.symm)
  have hoM : ¬ cM bm o := fun ⟨j, hj, z⟩ => hob j hj z
  have hYA : yA (cM bm) bm (N 0) (N 1) := ⟨hinj, fun j hj => ⟨j, hj, rfl⟩, hn8, hAx.2.2.2.2.2.2.2.1⟩
  have hAn : ∀ q, H.size ≤ q → cF s.heap.size o bm q := fun q hq => ⟨Nat.le_trans hS.1 hq, fun z => by have := hO.lt; omega, fun j hj z => by have := (hY j hj).lt; omega⟩
  refine lv_aload_n hx hb dL_law_677 rfl (lv_at hl 3 rfl) ?_
  refine lv_aload_n hx hb dL_law_678 rfl (lv_at hl 4 rfl) ?_
  refine lv_iload hx hb dL_law_679 (lv_at hl 0 rfl) ?_
  refine lv_iconst (v := nI 1) hx hb dL_law_681 (by decide) ?_
  refine lv_iadd hx hb dL_law_682 ?_
  refine xtop (show ((nI (i)) + (nI 1)) = nI (i + 1) from nI_add i 1) ?_
  refine va_sld hx hb hXs hbl hbA hS (i := nI (i + 1)) (vp_in_nI (n := i + 1) (by omega) (by omega)) dL_law_683 ?_
  refine xtop (show (xs (nI (i + 1)).toNatClampNeg) = xs (i + 1) from by rw [nI_clamp (n := i + 1) (by omega)]) ?_
  refine lv_aload_n hx hb dL_law_684 rfl (lv_at hl 1 rfl) ?_
  refine xci (vx_runSW (As := [.ref (ad 0 0), .int (xs (i + 1)), .ref (o)]) (rest := []) ⟨hx, hb, hml, hown, hts⟩ (c_L_pass l D cA e0 (cO s.heap.size o bm) H ad g tt N hX (xs (i + 1)) (cF s.heap.size o bm) hF hAx hI (hC.ok hn8) hdy o f0 hO (Or.inr rfl) hoF hl9) (callSW_of 3 hts gi_L_pass rfl rfl rfl (hts _ q_ini_L) (hts _ q_ml_L_101) (hts _ q_st_L_pass) hd_L_pass ⟨Nat.le_of_ble_eq_true rfl, Nat.le_of_ble_eq_true rfl⟩) (xpSw hE hNc hS hFo) rfl rfl hl.1 rfl (lv_room (Nat.le_of_ble_eq_true rfl)) dL_law_685 ⟨(show 24 + 9 * t + 1 ≤ 601024 by omega), (show 4951 + 56 * t + 6 ≤ 7293033 by omega)⟩) hS hFo (fun r9 H1 locs hP9 hz9 hk9 hS => ?_)
  refine W.widen (k := 24 + 9 * (t + 1)) (n := 4951 + 56 * (t + 1)) (by omega) (by omega) ?_
  have hY1 : yW D cA bm g tt (N 0) (N 1) H1 := hY.keep (fun j hj => hk9 _ (hY j hj).lt (hbO j hj))
  rcases hP9 with ⟨hr9, f1, hO1, p1, hf1, ad2, g1, N2, hX1, hA1, h41, hn1, hn, ha⟩ | ⟨hr9, hc, hX1, hO1⟩ | ⟨hr9, hc, hX1, hO1⟩
  · rw [hr9]
    refine lv_istore (lv' := [(5, .int (nI 0)), (4, .int (nI (i))), (3, .ref (o)), (2, .ref (bm 0)), (1, .ref (ad 0 0)), (0, .ref (b))]) hx hb dL_law_688 hl (by decide) rfl (fun ls hl => ?_)
    refine lv_aload_n hx hb dL_law_690 rfl (lv_at hl 3 rfl) ?_
    refine lv_aload_n hx hb dL_law_691 rfl (lv_at hl 5 rfl) ?_
    refine lv_iload hx hb dL_law_692 (lv_at hl 1 rfl) ?_
    refine lv_iconst (v := nI 1) hx hb dL_law_694 (by decide) ?_
    refine lv_iadd hx hb dL_law_695 ?_
    refine xtop (show ((nI (i)) + (nI 1)) = nI (i + 1) from nI_add i 1) ?_
    refine va_sld hx hb hXs hbl hbA hS (i := nI (i + 1)) (vp_in_nI (n := i + 1) (by omega) (by omega)) dL_law_696 ?_
    refine xtop (show (xs (nI (i + 1)).toNatClampNeg) = xs (i + 1) from by rw [nI_clamp (n := i + 1) (by omega)]) ?_
    refine xci (va_runV (As := [.int (xs (i + 1))]) (rest := []) ⟨hx, hb, hml, hown, hts⟩ (c_X5_pass l D cA e0 (cM bm) H1 bm g tt (N 0) (N 1) hY1 hYA hI hC hP hdy (xs (i + 1))) ⟨(callB_of 1 hts gi_X5_pass rfl rfl rfl (hts _ q_ini_X5) (hts _ q_ml_L_103) hd_X5_pass ⟨Nat.le_of_ble_eq_true rfl, Nat.le_of_ble_eq_true rfl⟩), hts _ q_im_X5_pass, hts _ q_sel_X5_X5_pass⟩ (xpVn hE hS hcM (hY1.main) rfl) rfl rfl hl.1 rfl (lv_room (Nat.le_of_ble_eq_true rfl)) dL_law_697 ⟨(show 24 + 9 * (t + 1) + 0 ≤ 601024 by omega), (show 4951 + 56 * (t + 1) + 0 ≤ 7293033 by omega)⟩) hS hcM (fun r8 H2 locs hQ9 hz8 hk8 hS => ?_)
    refine W.widen (k := 24 + 9 * (t + 1)) (n := 4951 + 56 * (t + 1)) (by omega) (by omega) ?_
    have hX2 := hX1.mod hA1 hk8
    have hO2 := hO1.kept (hk8 _ hO1.lt hoM)
    rcases hQ9 with ⟨m1, hr2, g2, hY2, hT2, hP2, hC2, h20⟩ | ⟨m1, hY2⟩ | ⟨m1, m2, hY2⟩
    · have hcmp : f1 0 = r8.toInt64 := by rw [hf1, hr2]
      refine lv_istore (lv' := [(6, .int (r8)), (5, .int (nI 0)), (4, .int (nI (i))), (3, .ref (o)), (2, .ref (bm 0)), (1, .ref (ad 0 0)), (0, .ref (b))]) hx hb dL_law_700 hl (by decide) rfl (fun ls hl => ?_)
      refine lv_aload_n hx hb dL_law_702 rfl (lv_at hl 4 rfl) ?_
      refine xcRi (va_runV (As := []) (rest := []) ⟨hx, hb, hml, hown, hts⟩ (c_X5_thrown l D cA e0 (lwA s) _ bm _ _ _ _ hY2) ⟨(callB_of 0 hts gi_X5_thrown rfl rfl rfl (hts _ q_ini_X5) (hts _ q_ml_L_72) hd_X5_thrown ⟨Nat.le_of_ble_eq_true rfl, Nat.le_of_ble_eq_true rfl⟩), hts _ q_im_X5_thrown, hts _ q_sel_X5_X5_thrown⟩ (xpV hE hS (hY2.main) rfl) rfl rfl hl.1 rfl (lv_room (Nat.le_of_ble_eq_true rfl)) dL_law_703 ⟨(show 24 + 9 * (t + 1) + 0 ≤ 601024 by omega), (show 4951 + 56 * (t + 1) + 0 ≤ 7293033 by omega)⟩) ?_
      refine xtop (show _ = nI 0 from h20) ?_
      refine lv_iload hx hb dL_law_706 (lv_at hl 1 rfl) ?_
      refine lv_icmp_eq (tgt := 713) hx hb dL_law_708 (by decide) (fun _ => ?_) (fun hno => absurd (rfl) hno)
      refine lv_iload hx hb dL_law_713 (lv_at hl 1 rfl) ?_
      refine lv_if_ne (tgt := 730) hx hb dL_law_715 (by decide) (fun hno => absurd hno (fun z => z rfl)) (fun _ => ?_)
      refine lv_aload_n hx hb dL_law_718 rfl (lv_at hl 3 rfl) ?_
      refine lv_iconst (v := nI 0) hx hb dL_law_719 (by decide) ?_
      refine va_lald hx hb hK (xP1 (hO2)) 0 1 rfl rfl (i := nI 0) (vp_in_nI (n := 0) (by omega) (by omega)) dL_law_720 ?_
      refine xtopL (show ((fun z => f1 (z)) (nI 0).toNatClampNeg) = f1 (0) from by rw [nI_clamp (n := 0) (by omega)]) ?_
      refine lv_iload hx hb dL_law_721 (lv_at hl 0 rfl) ?_
      refine lv_i2l (v := r8.toInt64) hx hb dL_law_723 rfl ?_
      refine W.lcmp hx hb dL_law_724 ?_
      refine xtop (show lg_cmp (f1 (0)) (r8.toInt64) = nI 0 from by rw [hcmp]; exact lg_self _) ?_
      refine lv_if_eq (tgt := 730) hx hb dL_law_725 (by decide) (fun _ => ?_) (fun hno => absurd (rfl) hno)
      refine lv_goto (tgt := 1185) hx hb dL_law_730 (by decide) ?_
      exact K _ _ _ _ _ _ _ (LI_ps hLI p1 hX2 hA1 h41 hn1 hn ha hY2 hT2 hP2 hC2 ⟨_, hO2⟩) hS (lv_sub hl [2, 3, 4, 5, 6] rfl)
    · exact (m1 p1.1).elim
    · exact (m2 p1.2).elim
  · rw [hr9]
    refine lv_istore (lv' := [(5, .int (nI 1)), (4, .int (nI (i))), (3, .ref (o)), (2, .ref (bm 0)), (1, .ref (ad 0 0)), (0, .ref (b))]) hx hb dL_law_688 hl (by decide) rfl (fun ls hl => ?_)
    refine lv_aload_n hx hb dL_law_690 rfl (lv_at hl 3 rfl) ?_
    refine lv_aload_n hx hb dL_law_691 rfl (lv_at hl 5 rfl) ?_
    refine lv_iload hx hb dL_law_692 (lv_at hl 1 rfl) ?_
    refine lv_iconst (v := nI 1) hx hb dL_law_694 (by decide) ?_
    refine lv_iadd hx hb dL_law_695 ?_
    refine xtop (show ((nI (i)) + (nI 1)) = nI (i + 1) from nI_add i 1) ?_
    refine va_sld hx hb hXs hbl hbA hS (i := nI (i + 1)) (vp_in_nI (n := i + 1) (by omega) (by omega)) dL_law_696 ?_
    refine xtop (show (xs (nI (i + 1)).toNatClampNeg) = xs (i + 1) from by rw [nI_clamp (n := i + 1) (by omega)]) ?_
    refine xci (va_runV (As := [.int (xs (i + 1))]) (rest := []) ⟨hx, hb, hml, hown, hts⟩ (c_X5_pass l D cA e0 (cM bm) H1 bm g tt (N 0) (N 1) hY1 hYA hI hC hP hdy (xs (i + 1))) ⟨(callB_of 1 hts gi_X5_pass rfl rfl rfl (hts _ q_ini_X5) (hts _ q_ml_L_103) hd_X5_pass ⟨Nat.le_of_ble_eq_true rfl, Nat.le_of_ble_eq_true rfl⟩), hts _ q_im_X5_pass, hts _ q_sel_X5_X5_pass⟩ (xpVn hE hS hcM (hY1.main) rfl) rfl rfl hl.1 rfl (lv_room (Nat.le_of_ble_eq_true rfl)) dL_law_697 ⟨(show 24 + 9 * (t + 1) + 0 ≤ 601024 by omega), (show 4951 + 56 * (t + 1) + 0 ≤ 7293033 by omega)⟩) hS hcM (fun r8 H2 locs hQ9 hz8 hk8 hS => ?_)
    refine W.widen (k := 24 + 9 * (t + 1)) (n := 4951 + 56 * (t + 1)) (by omega) (by omega) ?_
    have hX2 := hX1.mod hAx hk8
    have hO2 := hO1.kept (hk8 _ hO1.lt hoM)
    rcases hQ9 with ⟨m1, hr2, g2, hY2, hT2, hP2, hC2, h20⟩ | ⟨m1, hY2⟩ | ⟨m1, m2, hY2⟩
    · exact (hc m1.1).elim
    · refine lv_istore (lv' := [(6, .int (r8)), (5, .int (nI 1)), (4, .int (nI (i))), (3, .ref (o)), (2, .ref (bm 0)), (1, .ref (ad 0 0)), (0, .ref (b))]) hx hb dL_law_700 hl (by decide) rfl (fun ls hl => ?_)
      refine lv_aload_n hx hb dL_law_702 rfl (lv_at hl 4 rfl) ?_
      refine xcRi (va_runV (As := []) (rest := []) ⟨hx, hb, hml, hown, hts⟩ (c_X5_thrown l D cA e0 (lwA s) _ bm _ _ _ _ hY2) ⟨(callB_of 0 hts gi_X5_thrown rfl rfl rfl (hts _ q_ini_X5) (hts _ q_ml_L_72) hd_X5_thrown ⟨Nat.le_of_ble_eq_true rfl, Nat.le_of_ble_eq_true rfl⟩), hts _ q_im_X5_thrown, hts _ q_sel_X5_X5_thrown⟩ (xpV hE hS (hY2.main) rfl) rfl rfl hl.1 rfl (lv_room (Nat.le_of_ble_eq_true rfl)) dL_law_703 ⟨(show 24 + 9 * (t + 1) + 0 ≤ 601024 by omega), (show 4951 + 56 * (t + 1) + 0 ≤ 7293033 by omega)⟩) ?_
      refine xtop (show _ = nI 1 from thG_20 g 1) ?_
      refine lv_iload hx hb dL_law_706 (lv_at hl 1 rfl) ?_
      refine lv_icmp_eq (tgt := 713) hx hb dL_law_708 (by decide) (fun _ => ?_) (fun hno => absurd (rfl) hno)
      refine lv_iload hx hb dL_law_713 (lv_at hl 1 rfl) ?_
      refine lv_if_ne (tgt := 730) hx hb dL_law_715 (by decide) (fun _ => ?_) (fun hno => absurd hno ((by decide)))
      refine lv_goto (tgt := 1185) hx hb dL_law_730 (by decide) ?_
      exact K _ _ _ _ _ _ _ (LI_eqY hLI hX2 (fun _ _ _ _ => rfl) hY2 (fun t9 a9 _ => thG_t g 1 a9) ⟨_, hO2⟩) hS (lv_sub hl [2, 3, 4, 5, 6] rfl)
    · exact (hc m1).elim
  · rw [hr9]
    refine lv_istore (lv' := [(5, .int (nI 2)), (4, .int (nI (i))), (3, .ref (o)), (2, .ref (bm 0)), (1, .ref (ad 0 0)), (0, .ref (b))]) hx hb dL_law_688 hl (by decide) rfl (fun ls hl => ?_)
    refine lv_aload_n hx hb dL_law_690 rfl (lv_at hl 3 rfl) ?_
    refine lv_aload_n hx hb dL_law_691 rfl (lv_at hl 5 rfl) ?_
    refine lv_iload hx hb dL_law_692 (lv_at hl 1 rfl) ?_
    refine lv_iconst (v := nI 1) hx hb dL_law_694 (by decide) ?_
    refine lv_iadd hx hb dL_law_695 ?_
    refine xtop (show ((nI (i)) + (nI 1)) = nI (i + 1) from nI_add i 1) ?_
    refine va_sld hx hb hXs hbl hbA hS (i := nI (i + 1)) (vp_in_nI (n := i + 1) (by omega) (by omega)) dL_law_696 ?_
    refine xtop (show (xs (nI (i + 1)).toNatClampNeg) = xs (i + 1) from by rw [nI_clamp (n := i + 1) (by omega)]) ?_
    refine xci (va_runV (As := [.int (xs (i + 1))]) (rest := []) ⟨hx, hb, hml, hown, hts⟩ (c_X5_pass l D cA e0 (cM bm) H1 bm g tt (N 0) (N 1) hY1 hYA hI hC hP hdy (xs (i + 1))) ⟨(callB_of 1 hts gi_X5_pass rfl rfl rfl (hts _ q_ini_X5) (hts _ q_ml_L_103) hd_X5_pass ⟨Nat.le_of_ble_eq_true rfl, Nat.le_of_ble_eq_true rfl⟩), hts _ q_im_X5_pass, hts _ q_sel_X5_X5_pass⟩ (xpVn hE hS hcM (hY1.main) rfl) rfl rfl hl.1 rfl (lv_room (Nat.le_of_ble_eq_true rfl)) dL_law_697 ⟨(show 24 + 9 * (t + 1) + 0 ≤ 601024 by omega), (show 4951 + 56 * (t + 1) + 0 ≤ 7293033 by omega)⟩) hS hcM (fun r8 H2 locs hQ9 hz8 hk8 hS => ?_)
    refine W.widen (k := 24 + 9 * (t + 1)) (n := 4951 + 56 * (t + 1)) (by omega) (by omega) ?_
    have hX2 := hX1.mod hAx hk8
    have hO2 := hO1.kept (hk8 _ hO1.lt hoM)
    rcases hQ9 with ⟨m1, hr2, g2, hY2, hT2, hP2, hC2, h20⟩ | ⟨m1, hY2⟩ | ⟨m1, m2, hY2⟩
    · exact (hc.2 m1.2).elim
    · exact (m1 hc.1).elim
    · refine lv_istore (lv' := [(6, .int (r8)), (5, .int (nI 2)), (4, .int (nI (i))), (3, .ref (o)), (2, .ref (bm 0)), (1, .ref (ad 0 0)), (0, .ref (b))]) hx hb dL_law_700 hl (by decide) rfl (fun ls hl => ?_)
      refine lv_aload_n hx hb dL_law_702 rfl (lv_at hl 4 rfl) ?_
      refine xcRi (va_runV (As := []) (rest := []) ⟨hx, hb, hml, hown, hts⟩ (c_X5_thrown l D cA e0 (lwA s) _ bm _ _ _ _ hY2) ⟨(callB_of 0 hts gi_X5_thrown rfl rfl rfl (hts _ q_ini_X5) (hts _ q_ml_L_72) hd_X5_thrown ⟨Nat.le_of_ble_eq_true rfl, Nat.le_of_ble_eq_true rfl⟩), hts _ q_im_X5_thrown, hts _ q_sel_X5_X5_thrown⟩ (xpV hE hS (hY2.main) rfl) rfl rfl hl.1 rfl (lv_room (Nat.le_of_ble_eq_true rfl)) dL_law_703 ⟨(show 24 + 9 * (t + 1) + 0 ≤ 601024 by omega), (show 4951 + 56 * (t + 1) + 0 ≤ 7293033 by omega)⟩) ?_
      refine xtop (show _ = nI 2 from thG_20 g 2) ?_
      refine lv_iload hx hb dL_law_706 (lv_at hl 1 rfl) ?_
      refine lv_icmp_eq (tgt := 713) hx hb dL_law_708 (by decide) (fun _ => ?_) (fun hno => absurd (rfl) hno)
      refine lv_iload hx hb dL_law_713 (lv_at hl 1 rfl) ?_
      refine lv_if_ne (tgt := 730) hx hb dL_law_715 (by decide) (fun _ => ?_) (fun hno => absurd hno ((by decide)))
      refine lv_goto (tgt := 1185) hx hb dL_law_730 (by decide) ?_
      exact K _ _ _ _ _ _ _ (LI_eqY hLI hX2 (fun _ _ _ _ => rfl) hY2 (fun t9 a9 _ => thG_t g 2 a9) ⟨_, hO2⟩) hS (lv_sub hl [2, 3, 4, 5, 6] rfl)
