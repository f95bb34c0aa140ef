/-! The law's calls 9 to 13 (by p62.py) -/
set_option maxHeartbeats 4000000 in
set_option maxRecDepth 100000 in
/-- the law's call 9: today -/
theorem law_c_9 {p : Program} {l : Launch} {e : Env} {s : State} {m : MethodId} {below : List Frame} {meth : Method} {c : Code} {b L : Nat} {xs : Nat → Int32} {D : va_G} {cA : Nat → ClassId} {e0 x0 o : Nat} {bm : Nat → Nat} (C : lwC p l s m meth c b L xs D cA e0 o bm) {i t : Nat} (hi : i + 5 ≤ L) (ht : t < 512) {ad : Nat → Nat → Nat} {g : Nat → Nat → Int32} {tt : Nat → Int64} {N : Nat → Nat} {H : Heap} {locs : List Loc} {ls : Array Slot} (hLI : LI D cA e0 s.heap.size x0 o bm ad g tt N H) (hS : va_S (lwA s) s.heap H locs) (hl : lv_has ls 9 [(4, .int (nI (i))), (3, .ref o), (2, .ref (bm 0)), (1, .ref x0), (0, .ref b)]) (K : lwK p l e s m below meth c b D cA e0 x0 o bm i t) : W p l e room_1 s m #[Value.ref b] below meth c H locs (24 + 9 * t) (4951 + 56 * t) (lw_Z below #[Value.ref b] s) (F0 m 733 ls []) := by
  obtain ⟨hx, hb, hr, hml, hown, hE, hNc, hXs, hbl, hlocks, hLb, hbm, hinj, ho, hob, hl9⟩ := C
  have hts := hE.1.all #[Value.ref b]
  have hK := hE.2.1
  obtain ⟨hX, hAx, hY, hI, hW, hdf, hN2, hdy, hP, hC, ⟨f0, hO⟩, rfl⟩ := id hLI
  have hn8 := hAx.n8
  have hbA : ¬ lwA s b := Nat.not_le.mpr hbl
  have hF : ∀ q, cF s.heap.size o bm q → cO s.heap.size o bm q := fun q h => Or.inl h
  have hFF : ∀ q, cF s.heap.size o bm q → lwA s q := fun q h => h.1
  have hFo : ∀ q, cO s.heap.size o bm q → lwA s q := fun q h => h.elim (fun z => z.1) (fun z => by rw [z]; exact ho)
  have hoF : ¬ cF s.heap.size o bm o := fun z => z.2.1 rfl
  have hcM : ∀ q, cM bm q → lwA s q := fun q ⟨j, hj, z⟩ => by rw [z]; exact hbm j hj
  have hbO : ∀ j, j < 14 → ¬ cO s.heap.size o bm (bm j) := fun j hj z => z.elim (fun z => z.2.2 j hj rfl) (fun z => hob j hj z.symm)
  have hoM : ¬ cM bm o := fun ⟨j, hj, z⟩ => hob j hj z
  have hYA : yA (cM bm) bm (N 0) (N 1) := ⟨hinj, fun j hj => ⟨j, hj, rfl⟩, hn8, hAx.2.2.2.2.2.2.2.1⟩
  have hAn : ∀ q, H.size ≤ q → cF s.heap.size o bm q := fun q hq => ⟨Nat.le_trans hS.1 hq, fun z => by have := hO.lt; omega, fun j hj z => by have := (hY j hj).lt; omega⟩
  refine lv_aload_n hx hb dL_law_733 rfl (lv_at hl 3 rfl) ?_
  refine xcRi (va_runV (As := []) (rest := []) ⟨hx, hb, hml, hown, hts⟩ (c_X4_today l D cA e0 (cF s.heap.size o bm) H ad g tt N hX) ⟨(callB_of 0 hts gi_X4_today rfl rfl rfl (hts _ q_ini_X4) (hts _ q_ml_L_104) hd_X4_today ⟨Nat.le_of_ble_eq_true rfl, Nat.le_of_ble_eq_true rfl⟩), hts _ q_im_X4_today, hts _ q_sel_X4_X4_today⟩ (xpVn hE hS hFF (hX.main) rfl) rfl rfl hl.1 rfl (lv_room (Nat.le_of_ble_eq_true rfl)) dL_law_734 ⟨(show 24 + 9 * t + 0 ≤ 601024 by omega), (show 4951 + 56 * t + 0 ≤ 7293033 by omega)⟩) ?_
  refine W.widen (k := 24 + 9 * (t + 1)) (n := 4951 + 56 * (t + 1)) (by omega) (by omega) ?_
  have hX1 := hX
  have hY1 := hY
  have hO1 := hO
  refine lv_aload_n hx hb dL_law_737 rfl (lv_at hl 2 rfl) ?_
  refine xci (va_runV (As := []) (rest := [.int (g 13 0)]) ⟨hx, hb, hml, hown, hts⟩ (c_X5_today l D cA e0 (cM bm) H bm g tt (N 0) (N 1) hY1 hYA ) ⟨(callB_of 0 hts gi_X5_today rfl rfl rfl (hts _ q_ini_X5) (hts _ q_ml_L_107) hd_X5_today ⟨Nat.le_of_ble_eq_true rfl, Nat.le_of_ble_eq_true rfl⟩), hts _ q_im_X5_today, hts _ q_sel_X5_X5_today⟩ (xpVn hE hS hcM (hY1.main) rfl) rfl rfl hl.1 rfl (lv_room (Nat.le_of_ble_eq_true rfl)) dL_law_738 ⟨(show 24 + 9 * (t + 1) + 0 ≤ 601024 by omega), (show 4951 + 56 * (t + 1) + 0 ≤ 7293033 by omega)⟩) hS hcM (fun r8 H2 locs hQ9 hz8 hk8 hS => ?_)
  refine W.widen (k := 24 + 9 * (t + 1)) (n := 4951 + 56 * (t + 1)) (by omega) (by omega) ?_
  have hX2 := hX1.mod hAx hk8
  have hO2 := hO1.kept (hk8 _ hO1.lt hoM)
  obtain ⟨hr2, hY2⟩ := hQ9
  rw [hr2]
  refine lv_icmp_eq (tgt := 1185) hx hb dL_law_741 (by decide) (fun _ => ?_) (fun hno => absurd (rfl) hno)
  exact K _ _ _ _ _ _ _ (LI_eqY hLI hX2 (fun _ _ _ _ => rfl) hY2 (fun t9 a9 _ => thG_t g 0 a9) ⟨_, hO2⟩) hS (lv_sub hl [0, 1, 2, 3, 4] rfl)
set_option maxHeartbeats 4000000 in
set_option maxRecDepth 100000 in
/-- the law's call 10: planned -/
theorem law_c_10 {p : Program} {l : Launch} {e : Env} {s : State} {m : MethodId} {below : List Frame} {meth : Method} {c : Code} {b L : Nat} {xs : Nat → Int32} {D : va_G} {cA : Nat → ClassId} {e0 x0 o : Nat} {bm : Nat → Nat} (C : lwC p l s m meth c b L xs D cA e0 o bm) {i t : Nat} (hi : i + 5 ≤ L) (ht : t < 512) {ad : Nat → Nat → Nat} {g : Nat → Nat → Int32} {tt : Nat → Int64} {N : Nat → Nat} {H : Heap} {locs : List Loc} {ls : Array Slot} (hLI : LI D cA e0 s.heap.size x0 o bm ad g tt N H) (hS : va_S (lwA s) s.heap H locs) (hl : lv_has ls 9 [(4, .int (nI (i))), (3, .ref o), (2, .ref (bm 0)), (1, .ref x0), (0, .ref b)]) (K : lwK p l e s m below meth c b D cA e0 x0 o bm i t) : W p l e room_1 s m #[Value.ref b] below meth c H locs (24 + 9 * t) (4951 + 56 * t) (lw_Z below #[Value.ref b] s) (F0 m 746 ls []) := by
  obtain ⟨hx, hb, hr, hml, hown, hE, hNc, hXs, hbl, hlocks, hLb, hbm, hinj, ho, hob, hl9⟩ := C
  have hts := hE.1.all #[Value.ref b]
  have hK := hE.2.1
  obtain ⟨hX, hAx, hY, hI, hW, hdf, hN2, hdy, hP, hC, ⟨f0, hO⟩, rfl⟩ := id hLI
  have hn8 := hAx.n8
  have hbA : ¬ lwA s b := Nat.not_le.mpr hbl
  have hF : ∀ q, cF s.heap.size o bm q → cO s.heap.size o bm q := fun q h => Or.inl h
  have hFF : ∀ q, cF s.heap.size o bm q → lwA s q := fun q h => h.1
  have hFo : ∀ q, cO s.heap.size o bm q → lwA s q := fun q h => h.elim (fun z => z.1) (fun z => by rw [z]; exact ho)
  have hoF : ¬ cF s.heap.size o bm o := fun z => z.2.1 rfl
  have hcM : ∀ q, cM bm q → lwA s q := fun q ⟨j, hj, z⟩ => by rw [z]; exact hbm j hj
  have hbO : ∀ j, j < 14 → ¬ cO s.heap.size o bm (bm j) := fun j hj z => z.elim (fun z => z.2.2 j hj rfl) (fun z => hob j hj z.symm)
  have hoM : ¬ cM bm o := fun ⟨j, hj, z⟩ => hob j hj z
  have hYA : yA (cM bm) bm (N 0) (N 1) := ⟨hinj, fun j hj => ⟨j, hj, rfl⟩, hn8, hAx.2.2.2.2.2.2.2.1⟩
  have hAn : ∀ q, H.size ≤ q → cF s.heap.size o bm q := fun q hq => ⟨Nat.le_trans hS.1 hq, fun z => by have := hO.lt; omega, fun j hj z => by have := (hY j hj).lt; omega⟩
  refine lv_aload_n hx hb dL_law_746 rfl (lv_at hl 3 rfl) ?_
  refine xcRi (va_runV (As := []) (rest := []) ⟨hx, hb, hml, hown, hts⟩ (c_X4_planned l D cA e0 (cF s.heap.size o bm) H ad g tt N hX) ⟨(callB_of 0 hts gi_X4_planned rfl rfl rfl (hts _ q_ini_X4) (hts _ q_ml_L_108) hd_X4_planned ⟨Nat.le_of_ble_eq_true rfl, Nat.le_of_ble_eq_true rfl⟩), hts _ q_im_X4_planned, hts _ q_sel_X4_X4_planned⟩ (xpVn hE hS hFF (hX.main) rfl) rfl rfl hl.1 rfl (lv_room (Nat.le_of_ble_eq_true rfl)) dL_law_747 ⟨(show 24 + 9 * t + 0 ≤ 601024 by omega), (show 4951 + 56 * t + 0 ≤ 7293033 by omega)⟩) ?_
  refine W.widen (k := 24 + 9 * (t + 1)) (n := 4951 + 56 * (t + 1)) (by omega) (by omega) ?_
  have hX1 := hX
  have hY1 := hY
  have hO1 := hO
  refine lv_aload_n hx hb dL_law_750 rfl (lv_at hl 2 rfl) ?_
  refine xci (va_runV (As := []) (rest := [.int (nI (N 1))]) ⟨hx, hb, hml, hown, hts⟩ (c_X5_planned l D cA e0 (cM bm) H bm g tt (N 0) (N 1) hY1 hYA ) ⟨(callB_of 0 hts gi_X5_planned rfl rfl rfl (hts _ q_ini_X5) (hts _ q_ml_L_111) hd_X5_planned ⟨Nat.le_of_ble_eq_true rfl, Nat.le_of_ble_eq_true rfl⟩), hts _ q_im_X5_planned, hts _ q_sel_X5_X5_planned⟩ (xpVn hE hS hcM (hY1.main) rfl) rfl rfl hl.1 rfl (lv_room (Nat.le_of_ble_eq_true rfl)) dL_law_751 ⟨(show 24 + 9 * (t + 1) + 0 ≤ 601024 by omega), (show 4951 + 56 * (t + 1) + 0 ≤ 7293033 by omega)⟩) hS hcM (fun r8 H2 locs hQ9 hz8 hk8 hS => ?_)
  refine W.widen (k := 24 + 9 * (t + 1)) (n := 4951 + 56 * (t + 1)) (by omega) (by omega) ?_
  have hX2 := hX1.mod hAx hk8
  have hO2 := hO1.kept (hk8 _ hO1.lt hoM)
  obtain ⟨hr2, hY2⟩ := hQ9
  rw [hr2]
  refine lv_icmp_eq (tgt := 1185) hx hb dL_law_754 (by decide) (fun _ => ?_) (fun hno => absurd (rfl) hno)
  exact K _ _ _ _ _ _ _ (LI_eqY hLI hX2 (fun _ _ _ _ => rfl) hY2 (fun t9 a9 _ => thG_t g 0 a9) ⟨_, hO2⟩) hS (lv_sub hl [0, 1, 2, 3, 4] rfl)
set_option maxHeartbeats 4000000 in
set_option maxRecDepth 100000 in
/-- the law's call 11: drive -/
theorem law_c_11 {p : Program} {l : Launch} {e : Env} {s : State} {m : MethodId} {below : List Frame} {meth : Method} {c : Code} {b L : Nat} {xs : Nat → Int32} {D : va_G} {cA : Nat → ClassId} {e0 x0 o : Nat} {bm : Nat → Nat} (C : lwC p l s m meth c b L xs D cA e0 o bm) {i t : Nat} (hi : i + 5 ≤ L) (ht : t < 512) {ad : Nat → Nat → Nat} {g : Nat → Nat → Int32} {tt : Nat → Int64} {N : Nat → Nat} {H : Heap} {locs : List Loc} {ls : Array Slot} (hLI : LI D cA e0 s.heap.size x0 o bm ad g tt N H) (hS : va_S (lwA s) s.heap H locs) (hl : lv_has ls 9 [(4, .int (nI (i))), (3, .ref o), (2, .ref (bm 0)), (1, .ref x0), (0, .ref b)]) (K : lwK p l e s m below meth c b D cA e0 x0 o bm i t) : W p l e room_1 s m #[Value.ref b] below meth c H locs (24 + 9 * t) (4951 + 56 * t) (lw_Z below #[Value.ref b] s) (F0 m 759 ls []) := by
  obtain ⟨hx, hb, hr, hml, hown, hE, hNc, hXs, hbl, hlocks, hLb, hbm, hinj, ho, hob, hl9⟩ := C
  have hts := hE.1.all #[Value.ref b]
  have hK := hE.2.1
  obtain ⟨hX, hAx, hY, hI, hW, hdf, hN2, hdy, hP, hC, ⟨f0, hO⟩, rfl⟩ := id hLI
  have hn8 := hAx.n8
  have hbA : ¬ lwA s b := Nat.not_le.mpr hbl
  have hF : ∀ q, cF s.heap.size o bm q → cO s.heap.size o bm q := fun q h => Or.inl h
  have hFF : ∀ q, cF s.heap.size o bm q → lwA s q := fun q h => h.1
  have hFo : ∀ q, cO s.heap.size o bm q → lwA s q := fun q h => h.elim (fun z => z.1) (fun z => by rw [z]; exact ho)
  have hoF : ¬ cF s.heap.size o bm o := fun z => z.2.1 rfl
  have hcM : ∀ q, cM bm q → lwA s q := fun q ⟨j, hj, z⟩ => by rw [z]; exact hbm j hj
  have hbO : ∀ j, j < 14 → ¬ cO s.heap.size o bm (bm j) := fun j hj z => z.elim (fun z => z.2.2 j hj rfl) (fun z => hob j hj z.symm)
  have hoM : ¬ cM bm o := fun ⟨j, hj, z⟩ => hob j hj z
  have hYA : yA (cM bm) bm (N 0) (N 1) := ⟨hinj, fun j hj => ⟨j, hj, rfl⟩, hn8, hAx.2.2.2.2.2.2.2.1⟩
  have hAn : ∀ q, H.size ≤ q → cF s.heap.size o bm q := fun q hq => ⟨Nat.le_trans hS.1 hq, fun z => by have := hO.lt; omega, fun j hj z => by have := (hY j hj).lt; omega⟩
  refine lv_aload_n hx hb dL_law_759 rfl (lv_at hl 3 rfl) ?_
  refine lv_aload_n hx hb dL_law_760 rfl (lv_at hl 4 rfl) ?_
  refine lv_iload hx hb dL_law_761 (lv_at hl 0 rfl) ?_
  refine lv_iconst (v := nI 1) hx hb dL_law_763 (by decide) ?_
  refine lv_iadd hx hb dL_law_764 ?_
  refine xtop (show ((nI (i)) + (nI 1)) = nI (i + 1) from nI_add i 1) ?_
  refine va_sld hx hb hXs hbl hbA hS (i := nI (i + 1)) (vp_in_nI (n := i + 1) (by omega) (by omega)) dL_law_765 ?_
  refine xtop (show (xs (nI (i + 1)).toNatClampNeg) = xs (i + 1) from by rw [nI_clamp (n := i + 1) (by omega)]) ?_
  refine lv_aload_n hx hb dL_law_766 rfl (lv_at hl 1 rfl) ?_
  refine xci (vx_runSW (As := [.ref (ad 0 0), .int (xs (i + 1)), .ref (o)]) (rest := []) ⟨hx, hb, hml, hown, hts⟩ (c_L_drive l D cA e0 (cO s.heap.size o bm) H ad g tt N hX (xs (i + 1)) (cF s.heap.size o bm) hF hAx hW o f0 hO (Or.inr rfl) hoF hl9) (callSW_of 3 hts gi_L_drive rfl rfl rfl (hts _ q_ini_L) (hts _ q_ml_L_112) (hts _ q_st_L_drive) hd_L_drive ⟨Nat.le_of_ble_eq_true rfl, Nat.le_of_ble_eq_true rfl⟩) (xpSw hE hNc hS hFo) rfl rfl hl.1 rfl (lv_room (Nat.le_of_ble_eq_true rfl)) dL_law_767 ⟨(show 24 + 9 * t + 1 ≤ 601024 by omega), (show 4951 + 56 * t + 6 ≤ 7293033 by omega)⟩) hS hFo (fun r9 H1 locs hP9 hz9 hk9 hS => ?_)
  refine W.widen (k := 24 + 9 * (t + 1)) (n := 4951 + 56 * (t + 1)) (by omega) (by omega) ?_
  have hY1 : yW D cA bm g tt (N 0) (N 1) H1 := hY.keep (fun j hj => hk9 _ (hY j hj).lt (hbO j hj))
  rcases hP9 with ⟨hr9, f1, hO1, p1, hf1, hX1⟩ | ⟨hr9, hc, hX1, hO1⟩
  · rw [hr9]
    refine lv_istore (lv' := [(5, .int (nI 0)), (4, .int (nI (i))), (3, .ref (o)), (2, .ref (bm 0)), (1, .ref (ad 0 0)), (0, .ref (b))]) hx hb dL_law_770 hl (by decide) rfl (fun ls hl => ?_)
    refine lv_aload_n hx hb dL_law_772 rfl (lv_at hl 3 rfl) ?_
    refine lv_aload_n hx hb dL_law_773 rfl (lv_at hl 5 rfl) ?_
    refine lv_iload hx hb dL_law_774 (lv_at hl 1 rfl) ?_
    refine lv_iconst (v := nI 1) hx hb dL_law_776 (by decide) ?_
    refine lv_iadd hx hb dL_law_777 ?_
    refine xtop (show ((nI (i)) + (nI 1)) = nI (i + 1) from nI_add i 1) ?_
    refine va_sld hx hb hXs hbl hbA hS (i := nI (i + 1)) (vp_in_nI (n := i + 1) (by omega) (by omega)) dL_law_778 ?_
    refine xtop (show (xs (nI (i + 1)).toNatClampNeg) = xs (i + 1) from by rw [nI_clamp (n := i + 1) (by omega)]) ?_
    refine xci (va_runV (As := [.int (xs (i + 1))]) (rest := []) ⟨hx, hb, hml, hown, hts⟩ (c_X5_drive l D cA e0 (cM bm) H1 bm g tt (N 0) (N 1) hY1 hYA (xs (i + 1))) ⟨(callB_of 1 hts gi_X5_drive rfl rfl rfl (hts _ q_ini_X5) (hts _ q_ml_L_114) hd_X5_drive ⟨Nat.le_of_ble_eq_true rfl, Nat.le_of_ble_eq_true rfl⟩), hts _ q_im_X5_drive, hts _ q_sel_X5_X5_drive⟩ (xpVn hE hS hcM (hY1.main) rfl) rfl rfl hl.1 rfl (lv_room (Nat.le_of_ble_eq_true rfl)) dL_law_779 ⟨(show 24 + 9 * (t + 1) + 0 ≤ 601024 by omega), (show 4951 + 56 * (t + 1) + 0 ≤ 7293033 by omega)⟩) hS hcM (fun r8 H2 locs hQ9 hz8 hk8 hS => ?_)
    refine W.widen (k := 24 + 9 * (t + 1)) (n := 4951 + 56 * (t + 1)) (by omega) (by omega) ?_
    have hX2 := hX1.mod hAx hk8
    have hO2 := hO1.kept (hk8 _ hO1.lt hoM)
    rcases hQ9 with ⟨m1, hr2, g2, hY2, he2⟩ | ⟨m1, hY2⟩
    · have hcmp : f1 0 = r8.toInt64 := by rw [hf1, hr2]
      refine lv_istore (lv' := [(6, .int (r8)), (5, .int (nI 0)), (4, .int (nI (i))), (3, .ref (o)), (2, .ref (bm 0)), (1, .ref (ad 0 0)), (0, .ref (b))]) hx hb dL_law_782 hl (by decide) rfl (fun ls hl => ?_)
      refine lv_aload_n hx hb dL_law_784 rfl (lv_at hl 4 rfl) ?_
      refine xcRi (va_runV (As := []) (rest := []) ⟨hx, hb, hml, hown, hts⟩ (c_X5_thrown l D cA e0 (lwA s) _ bm _ _ _ _ hY2) ⟨(callB_of 0 hts gi_X5_thrown rfl rfl rfl (hts _ q_ini_X5) (hts _ q_ml_L_72) hd_X5_thrown ⟨Nat.le_of_ble_eq_true rfl, Nat.le_of_ble_eq_true rfl⟩), hts _ q_im_X5_thrown, hts _ q_sel_X5_X5_thrown⟩ (xpV hE hS (hY2.main) rfl) rfl rfl hl.1 rfl (lv_room (Nat.le_of_ble_eq_true rfl)) dL_law_785 ⟨(show 24 + 9 * (t + 1) + 0 ≤ 601024 by omega), (show 4951 + 56 * (t + 1) + 0 ≤ 7293033 by omega)⟩) ?_
      refine xtop (show _ = nI 0 from he2.2) ?_
      refine lv_iload hx hb dL_law_788 (lv_at hl 1 rfl) ?_
      refine lv_icmp_eq (tgt := 795) hx hb dL_law_790 (by decide) (fun _ => ?_) (fun hno => absurd (rfl) hno)
      refine lv_iload hx hb dL_law_795 (lv_at hl 1 rfl) ?_
      refine lv_if_ne (tgt := 812) hx hb dL_law_797 (by decide) (fun hno => absurd hno (fun z => z rfl)) (fun _ => ?_)
      refine lv_aload_n hx hb dL_law_800 rfl (lv_at hl 3 rfl) ?_
      refine lv_iconst (v := nI 0) hx hb dL_law_801 (by decide) ?_
      refine va_lald hx hb hK (xP1 (hO2)) 0 1 rfl rfl (i := nI 0) (vp_in_nI (n := 0) (by omega) (by omega)) dL_law_802 ?_
      refine xtopL (show ((fun z => f1 (z)) (nI 0).toNatClampNeg) = f1 (0) from by rw [nI_clamp (n := 0) (by omega)]) ?_
      refine lv_iload hx hb dL_law_803 (lv_at hl 0 rfl) ?_
      refine lv_i2l (v := r8.toInt64) hx hb dL_law_805 rfl ?_
      refine W.lcmp hx hb dL_law_806 ?_
      refine xtop (show lg_cmp (f1 (0)) (r8.toInt64) = nI 0 from by rw [hcmp]; exact lg_self _) ?_
      refine lv_if_eq (tgt := 812) hx hb dL_law_807 (by decide) (fun _ => ?_) (fun hno => absurd (rfl) hno)
      refine lv_goto (tgt := 1185) hx hb dL_law_812 (by decide) ?_
      exact K _ _ _ _ _ _ _ (LI_eqY hLI hX2 (fun _ _ _ _ => rfl) hY2 he2.1 ⟨_, hO2⟩) hS (lv_sub hl [2, 3, 4, 5, 6] rfl)
    · exact (m1 p1).elim
  · rw [hr9]
    refine lv_istore (lv' := [(5, .int (nI 1)), (4, .int (nI (i))), (3, .ref (o)), (2, .ref (bm 0)), (1, .ref (ad 0 0)), (0, .ref (b))]) hx hb dL_law_770 hl (by decide) rfl (fun ls hl => ?_)
    refine lv_aload_n hx hb dL_law_772 rfl (lv_at hl 3 rfl) ?_
    refine lv_aload_n hx hb dL_law_773 rfl (lv_at hl 5 rfl) ?_
    refine lv_iload hx hb dL_law_774 (lv_at hl 1 rfl) ?_
    refine lv_iconst (v := nI 1) hx hb dL_law_776 (by decide) ?_
    refine lv_iadd hx hb dL_law_777 ?_
    refine xtop (show ((nI (i)) + (nI 1)) = nI (i + 1) from nI_add i 1) ?_
    refine va_sld hx hb hXs hbl hbA hS (i := nI (i + 1)) (vp_in_nI (n := i + 1) (by omega) (by omega)) dL_law_778 ?_
    refine xtop (show (xs (nI (i + 1)).toNatClampNeg) = xs (i + 1) from by rw [nI_clamp (n := i + 1) (by omega)]) ?_
    refine xci (va_runV (As := [.int (xs (i + 1))]) (rest := []) ⟨hx, hb, hml, hown, hts⟩ (c_X5_drive l D cA e0 (cM bm) H1 bm g tt (N 0) (N 1) hY1 hYA (xs (i + 1))) ⟨(callB_of 1 hts gi_X5_drive rfl rfl rfl (hts _ q_ini_X5) (hts _ q_ml_L_114) hd_X5_drive ⟨Nat.le_of_ble_eq_true rfl, Nat.le_of_ble_eq_true rfl⟩), hts _ q_im_X5_drive, hts _ q_sel_X5_X5_drive⟩ (xpVn hE hS hcM (hY1.main) rfl) rfl rfl hl.1 rfl (lv_room (Nat.le_of_ble_eq_true rfl)) dL_law_779 ⟨(show 24 + 9 * (t + 1) + 0 ≤ 601024 by omega), (show 4951 + 56 * (t + 1) + 0 ≤ 7293033 by omega)⟩) hS hcM (fun r8 H2 locs hQ9 hz8 hk8 hS => ?_)
    refine W.widen (k := 24 + 9 * (t + 1)) (n := 4951 + 56 * (t + 1)) (by omega) (by omega) ?_
    have hX2 := hX1.mod hAx hk8
    have hO2 := hO1.kept (hk8 _ hO1.lt hoM)
    rcases hQ9 with ⟨m1, hr2, g2, hY2, he2⟩ | ⟨m1, hY2⟩
    · exact (hc m1).elim
    · refine lv_istore (lv' := [(6, .int (r8)), (5, .int (nI 1)), (4, .int (nI (i))), (3, .ref (o)), (2, .ref (bm 0)), (1, .ref (ad 0 0)), (0, .ref (b))]) hx hb dL_law_782 hl (by decide) rfl (fun ls hl => ?_)
      refine lv_aload_n hx hb dL_law_784 rfl (lv_at hl 4 rfl) ?_
      refine xcRi (va_runV (As := []) (rest := []) ⟨hx, hb, hml, hown, hts⟩ (c_X5_thrown l D cA e0 (lwA s) _ bm _ _ _ _ hY2) ⟨(callB_of 0 hts gi_X5_thrown rfl rfl rfl (hts _ q_ini_X5) (hts _ q_ml_L_72) hd_X5_thrown ⟨Nat.le_of_ble_eq_true rfl, Nat.le_of_ble_eq_true rfl⟩), hts _ q_im_X5_thrown, hts _ q_sel_X5_X5_thrown⟩ (xpV hE hS (hY2.main) rfl) rfl rfl hl.1 rfl (lv_room (Nat.le_of_ble_eq_true rfl)) dL_law_785 ⟨(show 24 + 9 * (t + 1) + 0 ≤ 601024 by omega), (show 4951 + 56 * (t + 1) + 0 ≤ 7293033 by omega)⟩) ?_
      refine xtop (show _ = nI 1 from thG_20 g 1) ?_
      refine lv_iload hx hb dL_law_788 (lv_at hl 1 rfl) ?_
      refine lv_icmp_eq (tgt := 795) hx hb dL_law_790 (by decide) (fun _ => ?_) (fun hno => absurd (rfl) hno)
      refine lv_iload hx hb dL_law_795 (lv_at hl 1 rfl) ?_
      refine lv_if_ne (tgt := 812) hx hb dL_law_797 (by decide) (fun _ => ?_) (fun hno => absurd hno ((by decide)))
      refine lv_goto (tgt := 1185) hx hb dL_law_812 (by decide) ?_
      exact K _ _ _ _ _ _ _ (LI_eqY hLI hX2 (fun _ _ _ _ => rfl) hY2 (fun t9 a9 _ => thG_t g 1 a9) ⟨_, hO2⟩) hS (lv_sub hl [2, 3, 4, 5, 6] rfl)
set_option maxHeartbeats 4000000 in
set_option maxRecDepth 100000 in
/-- the law's call 12: visit -/
theorem law_c_12 {p : Program} {l : Launch} {e : Env} {s : State} {m : MethodId} {below : List Frame} {meth : Method} {c : Code} {b L : Nat} {xs : Nat → Int32} {D : va_G} {cA : Nat → ClassId} {e0 x0 o : Nat} {bm : Nat → Nat} (C : lwC p l s m meth c b L xs D cA e0 o bm) {i t : Nat} (hi : i + 5 ≤ L) (ht : t < 512) {ad : Nat → Nat → Nat} {g : Nat → Nat → Int32} {tt : Nat → Int64} {N : Nat → Nat} {H : Heap} {locs : List Loc} {ls : Array Slot} (hLI : LI D cA e0 s.heap.size x0 o bm ad g tt N H) (hS : va_S (lwA s) s.heap H locs) (hl : lv_has ls 9 [(4, .int (nI (i))), (3, .ref o), (2, .ref (bm 0)), (1, .ref x0), (0, .ref b)]) (K : lwK p l e s m below meth c b D cA e0 x0 o bm i t) : W p l e room_1 s m #[Value.ref b] below meth c H locs (24 + 9 * t) (4951 + 56 * t) (lw_Z below #[Value.ref b] s) (F0 m 815 ls []) := by
  obtain ⟨hx, hb, hr, hml, hown, hE, hNc, hXs, hbl, hlocks, hLb, hbm, hinj, ho, hob, hl9⟩ := C
  have hts := hE.1.all #[Value.ref b]
  have hK := hE.2.1
  obtain ⟨hX, hAx, hY, hI, hW, hdf, hN2, hdy, hP, hC, ⟨f0, hO⟩, rfl⟩ := id hLI
  have hn8 := hAx.n8
  have hbA : ¬ lwA s b := Nat.not_le.mpr hbl
  have hF : ∀ q, cF s.heap.size o bm q → cO s.heap.size o bm q := fun q h => Or.inl h
  have hFF : ∀ q, cF s.heap.size o bm q → lwA s q := fun q h => h.1
  have hFo : ∀ q, cO s.heap.size o bm q → lwA s q := fun q h => h.elim (fun z => z.1) (fun z => by rw [z]; exact ho)
  have hoF : ¬ cF s.heap.size o bm o := fun z => z.2.1 rfl
  have hcM : ∀ q, cM bm q → lwA s q := fun q ⟨j, hj, z⟩ => by rw [z]; exact hbm j hj
  have hbO : ∀ j, j < 14 → ¬ cO s.heap.size o bm (bm j) := fun j hj z => z.elim (fun z => z.2.2 j hj rfl) (fun z => hob j hj z.symm)
  have hoM : ¬ cM bm o := fun ⟨j, hj, z⟩ => hob j hj z
  have hYA : yA (cM bm) bm (N 0) (N 1) := ⟨hinj, fun j hj => ⟨j, hj, rfl⟩, hn8, hAx.2.2.2.2.2.2.2.1⟩
  have hAn : ∀ q, H.size ≤ q → cF s.heap.size o bm q := fun q hq => ⟨Nat.le_trans hS.1 hq, fun z => by have := hO.lt; omega, fun j hj z => by have := (hY j hj).lt; omega⟩
  refine lv_aload_n hx hb dL_law_815 rfl (lv_at hl 3 rfl) ?_
  refine lv_aload_n hx hb dL_law_816 rfl (lv_at hl 4 rfl) ?_
  refine lv_iload hx hb dL_law_817 (lv_at hl 0 rfl) ?_
  refine lv_iconst (v := nI 1) hx hb dL_law_819 (by decide) ?_
  refine lv_iadd hx hb dL_law_820 ?_
  refine xtop (show ((nI (i)) + (nI 1)) = nI (i + 1) from nI_add i 1) ?_
  refine va_sld hx hb hXs hbl hbA hS (i := nI (i + 1)) (vp_in_nI (n := i + 1) (by omega) (by omega)) dL_law_821 ?_
  refine xtop (show (xs (nI (i + 1)).toNatClampNeg) = xs (i + 1) from by rw [nI_clamp (n := i + 1) (by omega)]) ?_
  refine lv_aload_n hx hb dL_law_822 rfl (lv_at hl 4 rfl) ?_
  refine lv_iload hx hb dL_law_823 (lv_at hl 0 rfl) ?_
  refine lv_iconst (v := nI 2) hx hb dL_law_825 (by decide) ?_
  refine lv_iadd hx hb dL_law_826 ?_
  refine xtop (show ((nI (i)) + (nI 2)) = nI (i + 2) from nI_add i 2) ?_
  refine va_sld hx hb hXs hbl hbA hS (i := nI (i + 2)) (vp_in_nI (n := i + 2) (by omega) (by omega)) dL_law_827 ?_
  refine xtop (show (xs (nI (i + 2)).toNatClampNeg) = xs (i + 2) from by rw [nI_clamp (n := i + 2) (by omega)]) ?_
  refine lv_aload_n hx hb dL_law_828 rfl (lv_at hl 1 rfl) ?_
  refine xci (vx_runSW (As := [.ref (ad 0 0), .int (xs (i + 1)), .int (xs (i + 2)), .ref (o)]) (rest := []) ⟨hx, hb, hml, hown, hts⟩ (c_L_visit l D cA e0 (cO s.heap.size o bm) H ad g tt N hX (xs (i + 1)) (xs (i + 2)) (cF s.heap.size o bm) hF hAx hW o f0 hO (Or.inr rfl) hoF hl9) (callSW_of 4 hts gi_L_visit rfl rfl rfl (hts _ q_ini_L) (hts _ q_ml_L_115) (hts _ q_st_L_visit) hd_L_visit ⟨Nat.le_of_ble_eq_true rfl, Nat.le_of_ble_eq_true rfl⟩) (xpSw hE hNc hS hFo) rfl rfl hl.1 rfl (lv_room (Nat.le_of_ble_eq_true rfl)) dL_law_829 ⟨(show 24 + 9 * t + 2 ≤ 601024 by omega), (show 4951 + 56 * t + 12 ≤ 7293033 by omega)⟩) hS hFo (fun r9 H1 locs hP9 hz9 hk9 hS => ?_)
  refine W.widen (k := 24 + 9 * (t + 1)) (n := 4951 + 56 * (t + 1)) (by omega) (by omega) ?_
  have hY1 : yW D cA bm g tt (N 0) (N 1) H1 := hY.keep (fun j hj => hk9 _ (hY j hj).lt (hbO j hj))
  rcases hP9 with ⟨hr9, f1, hO1, p1, hf1, hX1⟩ | ⟨hr9, hc, hX1, hO1⟩ | ⟨hr9, hc, hX1, hO1⟩
  · rw [hr9]
    refine lv_istore (lv' := [(5, .int (nI 0)), (4, .int (nI (i))), (3, .ref (o)), (2, .ref (bm 0)), (1, .ref (ad 0 0)), (0, .ref (b))]) hx hb dL_law_832 hl (by decide) rfl (fun ls hl => ?_)
    refine lv_aload_n hx hb dL_law_834 rfl (lv_at hl 3 rfl) ?_
    refine lv_aload_n hx hb dL_law_835 rfl (lv_at hl 5 rfl) ?_
    refine lv_iload hx hb dL_law_836 (lv_at hl 1 rfl) ?_
    refine lv_iconst (v := nI 1) hx hb dL_law_838 (by decide) ?_
    refine lv_iadd hx hb dL_law_839 ?_
    refine xtop (show ((nI (i)) + (nI 1)) = nI (i + 1) from nI_add i 1) ?_
    refine va_sld hx hb hXs hbl hbA hS (i := nI (i + 1)) (vp_in_nI (n := i + 1) (by omega) (by omega)) dL_law_840 ?_
    refine xtop (show (xs (nI (i + 1)).toNatClampNeg) = xs (i + 1) from by rw [nI_clamp (n := i + 1) (by omega)]) ?_
    refine lv_aload_n hx hb dL_law_841 rfl (lv_at hl 5 rfl) ?_
    refine lv_iload hx hb dL_law_842 (lv_at hl 1 rfl) ?_
    refine lv_iconst (v := nI 2) hx hb dL_law_844 (by decide) ?_
    refine lv_iadd hx hb dL_law_845 ?_
    refine xtop (show ((nI (i)) + (nI 2)) = nI (i + 2) from nI_add i 2) ?_
    refine va_sld hx hb hXs hbl hbA hS (i := nI (i + 2)) (vp_in_nI (n := i + 2) (by omega) (by omega)) dL_law_846 ?_
    refine xtop (show (xs (nI (i + 2)).toNatClampNeg) = xs (i + 2) from by rw [nI_clamp (n := i + 2) (by omega)]) ?_
    refine xci (va_runV (As := [.int (xs (i + 1)), .int (xs (i + 2))]) (rest := []) ⟨hx, hb, hml, hown, hts⟩ (c_X5_visit l D cA e0 (cM bm) H1 bm g tt (N 0) (N 1) hY1 hYA (xs (i + 1)) (xs (i + 2))) ⟨(callB_of 2 hts gi_X5_visit rfl rfl rfl (hts _ q_ini_X5) (hts _ q_ml_L_117) hd_X5_visit ⟨Nat.le_of_ble_eq_true rfl, Nat.le_of_ble_eq_true rfl⟩), hts _ q_im_X5_visit, hts _ q_sel_X5_X5_visit⟩ (xpVn hE hS hcM (hY1.main) rfl) rfl rfl hl.1 rfl (lv_room (Nat.le_of_ble_eq_true rfl)) dL_law_847 ⟨(show 24 + 9 * (t + 1) + 0 ≤ 601024 by omega), (show 4951 + 56 * (t + 1) + 0 ≤ 7293033 by omega)⟩) hS hcM (fun r8 H2 locs hQ9 hz8 hk8 hS => ?_)
    refine W.widen (k := 24 + 9 * (t + 1)) (n := 4951 + 56 * (t + 1)) (by omega) (by omega) ?_
    have hX2 := hX1.mod hAx hk8
    have hO2 := hO1.kept (hk8 _ hO1.lt hoM)
    rcases hQ9 with ⟨m1, hr2, g2, hY2, he2⟩ | ⟨m1, hY2⟩ | ⟨m1, m2, hY2⟩
    · have hcmp : f1 0 = r8.toInt64 := by rw [hf1, hr2]
      refine lv_istore (lv' := [(6, .int (r8)), (5, .int (nI 0)), (4, .int (nI (i))), (3, .ref (o)), (2, .ref (bm 0)), (1, .ref (ad 0 0)), (0, .ref (b))]) hx hb dL_law_850 hl (by decide) rfl (fun ls hl => ?_)
      refine lv_aload_n hx hb dL_law_852 rfl (lv_at hl 4 rfl) ?_
      refine xcRi (va_runV (As := []) (rest := []) ⟨hx, hb, hml, hown, hts⟩ (c_X5_thrown l D cA e0 (lwA s) _ bm _ _ _ _ hY2) ⟨(callB_of 0 hts gi_X5_thrown rfl rfl rfl (hts _ q_ini_X5) (hts _ q_ml_L_72) hd_X5_thrown ⟨Nat.le_of_ble_eq_true rfl, Nat.le_of_ble_eq_true rfl⟩), hts _ q_im_X5_thrown, hts _ q_sel_X5_X5_thrown⟩ (xpV hE hS (hY2.main) rfl) rfl rfl hl.1 rfl (lv_room (Nat.le_of_ble_eq_true rfl)) dL_law_853 ⟨(show 24 + 9 * (t + 1) + 0 ≤ 601024 by omega), (show 4951 + 56 * (t + 1) + 0 ≤ 7293033 by omega)⟩) ?_
      refine xtop (show _ = nI 0 from he2.2) ?_
      refine lv_iload hx hb dL_law_856 (lv_at hl 1 rfl) ?_
      refine lv_icmp_eq (tgt := 863) hx hb dL_law_858 (by decide) (fun _ => ?_) (fun hno => absurd (rfl) hno)
      refine lv_iload hx hb dL_law_863 (lv_at hl 1 rfl) ?_
      refine lv_if_ne (tgt := 880) hx hb dL_law_865 (by decide) (fun hno => absurd hno (fun z => z rfl)) (fun _ => ?_)
      refine lv_aload_n hx hb dL_law_868 rfl (lv_at hl 3 rfl) ?_
      refine lv_iconst (v := nI 0) hx hb dL_law_869 (by decide) ?_
      refine va_lald hx hb hK (xP1 (hO2)) 0 1 rfl rfl (i := nI 0) (vp_in_nI (n := 0) (by omega) (by omega)) dL_law_870 ?_
      refine xtopL (show ((fun z => f1 (z)) (nI 0).toNatClampNeg) = f1 (0) from by rw [nI_clamp (n := 0) (by omega)]) ?_
      refine lv_iload hx hb dL_law_871 (lv_at hl 0 rfl) ?_
      refine lv_i2l (v := r8.toInt64) hx hb dL_law_873 rfl ?_
      refine W.lcmp hx hb dL_law_874 ?_
      refine xtop (show lg_cmp (f1 (0)) (r8.toInt64) = nI 0 from by rw [hcmp]; exact lg_self _) ?_
      refine lv_if_eq (tgt := 880) hx hb dL_law_875 (by decide) (fun _ => ?_) (fun hno => absurd (rfl) hno)
      refine lv_goto (tgt := 1185) hx hb dL_law_880 (by decide) ?_
      exact K _ _ _ _ _ _ _ (LI_eqY hLI hX2 (fun _ _ _ _ => rfl) hY2 he2.1 ⟨_, hO2⟩) hS (lv_sub hl [2, 3, 4, 5, 6] rfl)
    · exact (m1 p1.1).elim
    · exact (m2 p1.2).elim
  · rw [hr9]
    refine lv_istore (lv' := [(5, .int (nI 1)), (4, .int (nI (i))), (3, .ref (o)), (2, .ref (bm 0)), (1, .ref (ad 0 0)), (0, .ref (b))]) hx hb dL_law_832 hl (by decide) rfl (fun ls hl => ?_)
    refine lv_aload_n hx hb dL_law_834 rfl (lv_at hl 3 rfl) ?_
    refine lv_aload_n hx hb dL_law_835 rfl (lv_at hl 5 rfl) ?_
    refine lv_iload hx hb dL_law_836 (lv_at hl 1 rfl) ?_
    refine lv_iconst (v := nI 1) hx hb dL_law_838 (by decide) ?_
    refine lv_iadd hx hb dL_law_839 ?_
    refine xtop (show ((nI (i)) + (nI 1)) = nI (i + 1) from nI_add i 1) ?_
    refine va_sld hx hb hXs hbl hbA hS (i := nI (i + 1)) (vp_in_nI (n := i + 1) (by omega) (by omega)) dL_law_840 ?_
    refine xtop (show (xs (nI (i + 1)).toNatClampNeg) = xs (i + 1) from by rw [nI_clamp (n := i + 1) (by omega)]) ?_
    refine lv_aload_n hx hb dL_law_841 rfl (lv_at hl 5 rfl) ?_
    refine lv_iload hx hb dL_law_842 (lv_at hl 1 rfl) ?_
    refine lv_iconst (v := nI 2) hx hb dL_law_844 (by decide) ?_
    refine lv_iadd hx hb dL_law_845 ?_
    refine xtop (show ((nI (i)) + (nI 2)) = nI (i + 2) from nI_add i 2) ?_
    refine va_sld hx hb hXs hbl hbA hS (i := nI (i + 2)) (vp_in_nI (n := i + 2) (by omega) (by omega)) dL_law_846 ?_
    refine xtop (show (xs (nI (i + 2)).toNatClampNeg) = xs (i + 2) from by rw [nI_clamp (n := i + 2) (by omega)]) ?_
    refine xci (va_runV (As := [.int (xs (i + 1)), .int (xs (i + 2))]) (rest := []) ⟨hx, hb, hml, hown, hts⟩ (c_X5_visit l D cA e0 (cM bm) H1 bm g tt (N 0) (N 1) hY1 hYA (xs (i + 1)) (xs (i + 2))) ⟨(callB_of 2 hts gi_X5_visit rfl rfl rfl (hts _ q_ini_X5) (hts _ q_ml_L_117) hd_X5_visit ⟨Nat.le_of_ble_eq_true rfl, Nat.le_of_ble_eq_true rfl⟩), hts _ q_im_X5_visit, hts _ q_sel_X5_X5_visit⟩ (xpVn hE hS hcM (hY1.main) rfl) rfl rfl hl.1 rfl (lv_room (Nat.le_of_ble_eq_true rfl)) dL_law_847 ⟨(show 24 + 9 * (t + 1) + 0 ≤ 601024 by omega), (show 4951 + 56 * (t + 1) + 0 ≤ 7293033 by omega)⟩) hS hcM (fun r8 H2 locs hQ9 hz8 hk8 hS => ?_)
    refine W.widen (k := 24 + 9 * (t + 1)) (n := 4951 + 56 * (t + 1)) (by omega) (by omega) ?_
    have hX2 := hX1.mod hAx hk8
    have hO2 := hO1.kept (hk8 _ hO1.lt hoM)
    rcases hQ9 with ⟨m1, hr2, g2, hY2, he2⟩ | ⟨m1, hY2⟩ | ⟨m1, m2, hY2⟩
    · exact (hc m1.1).elim
    · refine lv_istore (lv' := [(6, .int (r8)), (5, .int (nI 1)), (4, .int (nI (i))), (3, .ref (o)), (2, .ref (bm 0)), (1, .ref (ad 0 0)), (0, .ref (b))]) hx hb dL_law_850 hl (by decide) rfl (fun ls hl => ?_)
      refine lv_aload_n hx hb dL_law_852 rfl (lv_at hl 4 rfl) ?_
      refine xcRi (va_runV (As := []) (rest := []) ⟨hx, hb, hml, hown, hts⟩ (c_X5_thrown l D cA e0 (lwA s) _ bm _ _ _ _ hY2) ⟨(callB_of 0 hts gi_X5_thrown rfl rfl rfl (hts _ q_ini_X5) (hts _ q_ml_L_72) hd_X5_thrown ⟨Nat.le_of_ble_eq_true rfl, Nat.le_of_ble_eq_true rfl⟩), hts _ q_im_X5_thrown, hts _ q_sel_X5_X5_thrown⟩ (xpV hE hS (hY2.main) rfl) rfl rfl hl.1 rfl (lv_room (Nat.le_of_ble_eq_true rfl)) dL_law_853 ⟨(show 24 + 9 * (t + 1) + 0 ≤ 601024 by omega), (show 4951 + 56 * (t + 1) + 0 ≤ 7293033 by omega)⟩) ?_
      refine xtop (show _ = nI 1 from thG_20 g 1) ?_
      refine lv_iload hx hb dL_law_856 (lv_at hl 1 rfl) ?_
      refine lv_icmp_eq (tgt := 863) hx hb dL_law_858 (by decide) (fun _ => ?_) (fun hno => absurd (rfl) hno)
      refine lv_iload hx hb dL_law_863 (lv_at hl 1 rfl) ?_
      refine lv_if_ne (tgt := 880) hx hb dL_law_865 (by decide) (fun _ => ?_) (fun hno => absurd hno ((by decide)))
      refine lv_goto (tgt := 1185) hx hb dL_law_880 (by decide) ?_
      exact K _ _ _ _ _ _ _ (LI_eqY hLI hX2 (fun _ _ _ _ => rfl) hY2 (fun t9 a9 _ => thG_t g 1 a9) ⟨_, hO2⟩) hS (lv_sub hl [2, 3, 4, 5, 6] rfl)
    · exact (hc m1).elim
  · rw [hr9]
    refine lv_istore (lv' := [(5, .int (nI 2)), (4, .int (nI (i))), (3, .ref (o)), (2, .ref (bm 0)), (1, .ref (ad 0 0)), (0, .ref (b))]) hx hb dL_law_832 hl (by decide) rfl (fun ls hl => ?_)
    refine lv_aload_n hx hb dL_law_834 rfl (lv_at hl 3 rfl) ?_
    refine lv_aload_n hx hb dL_law_835 rfl (lv_at hl 5 rfl) ?_
    refine lv_iload hx hb dL_law_836 (lv_at hl 1 rfl) ?_
    refine lv_iconst (v := nI 1) hx hb dL_law_838 (by decide) ?_
    refine lv_iadd hx hb dL_law_839 ?_
    refine xtop (show ((nI (i)) + (nI 1)) = nI (i + 1) from nI_add i 1) ?_
    refine va_sld hx hb hXs hbl hbA hS (i := nI (i + 1)) (vp_in_nI (n := i + 1) (by omega) (by omega)) dL_law_840 ?_
    refine xtop (show (xs (nI (i + 1)).toNatClampNeg) = xs (i + 1) from by rw [nI_clamp (n := i + 1) (by omega)]) ?_
    refine lv_aload_n hx hb dL_law_841 rfl (lv_at hl 5 rfl) ?_
    refine lv_iload hx hb dL_law_842 (lv_at hl 1 rfl) ?_
    refine lv_iconst (v := nI 2) hx hb dL_law_844 (by decide) ?_
    refine lv_iadd hx hb dL_law_845 ?_
    refine xtop (show ((nI (i)) + (nI 2)) = nI (i + 2) from nI_add i 2) ?_
    refine va_sld hx hb hXs hbl hbA hS (i := nI (i + 2)) (vp_in_nI (n := i + 2) (by omega) (by omega)) dL_law_846 ?_
    refine xtop (show (xs (nI (i + 2)).toNatClampNeg) = xs (i + 2) from by rw [nI_clamp (n := i + 2) (by omega)]) ?_
    refine xci (va_runV (As := [.int (xs (i + 1)), .int (xs (i + 2))]) (rest := []) ⟨hx, hb, hml, hown, hts⟩ (c_X5_visit l D cA e0 (cM bm) H1 bm g tt (N 0) (N 1) hY1 hYA (xs (i + 1)) (xs (i + 2))) ⟨(callB_of 2 hts gi_X5_visit rfl rfl rfl (hts _ q_ini_X5) (hts _ q_ml_L_117) hd_X5_visit ⟨Nat.le_of_ble_eq_true rfl, Nat.le_of_ble_eq_true rfl⟩), hts _ q_im_X5_visit, hts _ q_sel_X5_X5_visit⟩ (xpVn hE hS hcM (hY1.main) rfl) rfl rfl hl.1 rfl (lv_room (Nat.le_of_ble_eq_true rfl)) dL_law_847 ⟨(show 24 + 9 * (t + 1) + 0 ≤ 601024 by omega), (show 4951 + 56 * (t + 1) + 0 ≤ 7293033 by omega)⟩) hS hcM (fun r8 H2 locs hQ9 hz8 hk8 hS => ?_)
    refine W.widen (k := 24 + 9 * (t + 1)) (n := 4951 + 56 * (t + 1)) (by omega) (by omega) ?_
    have hX2 := hX1.mod hAx hk8
    have hO2 := hO1.kept (hk8 _ hO1.lt hoM)
    rcases hQ9 with ⟨m1, hr2, g2, hY2, he2⟩ | ⟨m1, hY2⟩ | ⟨m1, m2, hY2⟩
    · exact (hc.2 m1.2).elim
    · exact (m1 hc.1).elim
    · refine lv_istore (lv' := [(6, .int (r8)), (5, .int (nI 2)), (4, .int (nI (i))), (3, .ref (o)), (2, .ref (bm 0)), (1, .ref (ad 0 0)), (0, .ref (b))]) hx hb dL_law_850 hl (by decide) rfl (fun ls hl => ?_)
      refine lv_aload_n hx hb dL_law_852 rfl (lv_at hl 4 rfl) ?_
      refine xcRi (va_runV (As := []) (rest := []) ⟨hx, hb, hml, hown, hts⟩ (c_X5_thrown l D cA e0 (lwA s) _ bm _ _ _ _ hY2) ⟨(callB_of 0 hts gi_X5_thrown rfl rfl rfl (hts _ q_ini_X5) (hts _ q_ml_L_72) hd_X5_thrown ⟨Nat.le_of_ble_eq_true rfl, Nat.le_of_ble_eq_true rfl⟩), hts _ q_im_X5_thrown, hts _ q_sel_X5_X5_thrown⟩ (xpV hE hS (hY2.main) rfl) rfl rfl hl.1 rfl (lv_room (Nat.le_of_ble_eq_true rfl)) dL_law_853 ⟨(show 24 + 9 * (t + 1) + 0 ≤ 601024 by omega), (show 4951 + 56 * (t + 1) + 0 ≤ 7293033 by omega)⟩) ?_
      refine xtop (show _ = nI 2 from thG_20 g 2) ?_
      refine lv_iload hx hb dL_law_856 (lv_at hl 1 rfl) ?_
      refine lv_icmp_eq (tgt := 863) hx hb dL_law_858 (by decide) (fun _ => ?_) (fun hno => absurd (rfl) hno)
      refine lv_iload hx hb dL_law_863 (lv_at hl 1 rfl) ?_
      refine lv_if_ne (tgt := 880) hx hb dL_law_865 (by decide) (fun _ => ?_) (fun hno => absurd hno ((by decide)))
      refine lv_goto (tgt := 1185) hx hb dL_law_880 (by decide) ?_
      exact K _ _ _ _ _ _ _ (LI_eqY hLI hX2 (fun _ _ _ _ => rfl) hY2 (fun t9 a9 _ => thG_t g 2 a9) ⟨_, hO2⟩) hS (lv_sub hl [2, 3, 4, 5, 6] rfl)
set_option maxHeartbeats 4000000 in
set_option maxRecDepth 100000 in
/-- the law's call 13: minutes -/
theorem law_c_13 {p : Program} {l : Launch} {e : Env} {s : State} {m : MethodId} {below : List Frame} {meth : Method} {c : Code} {b L : Nat} {xs : Nat → Int32} {D : va_G} {cA : Nat → ClassId} {e0 x0 o : Nat} {bm : Nat → Nat} (C : lwC p l s m meth c b L xs D cA e0 o bm) {i t : Nat} (hi : i + 5 ≤ L) (ht : t < 512) {ad : Nat → Nat → Nat} {g : Nat → Nat → Int32} {tt : Nat → Int64} {N : Nat → Nat} {H : Heap} {locs : List Loc} {ls : Array Slot} (hLI : LI D cA e0 s.heap.size x0 o bm ad g tt N H) (hS : va_S (lwA s) s.heap H locs) (hl : lv_has ls 9 [(4, .int (nI (i))), (3, .ref o), (2, .ref (bm 0)), (1, .ref x0), (0, .ref b)]) (K : lwK p l e s m below meth c b D cA e0 x0 o bm i t) : W p l e room_1 s m #[Value.ref b] below meth c H locs (24 + 9 * t) (4951 + 56 * t) (lw_Z below #[Value.ref b] s) (F0 m 883 ls []) := by
  obtain ⟨hx, hb, hr, hml, hown, hE, hNc, hXs, hbl, hlocks, hLb, hbm, hinj, ho, hob, hl9⟩ := C
  have hts := hE.1.all #[Value.ref b]
  have hK := hE.2.1
  obtain ⟨hX, hAx, hY, hI, hW, hdf, hN2, hdy, hP, hC, ⟨f0, hO⟩, rfl⟩ := id hLI
  have hn8 := hAx.n8
  have hbA : ¬ lwA s b := Nat.not_le.mpr hbl
  have hF : ∀ q, cF s.heap.size o bm q → cO s.heap.size o bm q := fun q h => Or.inl h
  have hFF : ∀ q, cF s.heap.size o bm q → lwA s q := fun q h => h.1
  have hFo : ∀ q, cO s.heap.size o bm q → lwA s q := fun q h => h.elim (fun z => z.1) (fun z => by rw [z]; exact ho)
  have hoF : ¬ cF s.heap.size o bm o := fun z => z.2.1 rfl
  have hcM : ∀ q, cM bm q → lwA s q := fun q ⟨j, hj, z⟩ => by rw [z]; exact hbm j hj
  have hbO : ∀ j, j < 14 → ¬ cO s.heap.size o bm (bm j) := fun j hj z => z.elim (fun z => z.2.2 j hj rfl) (fun z => hob j hj z.symm)
  have hoM : ¬ cM bm o := fun ⟨j, hj, z⟩ => hob j hj z
  have hYA : yA (cM bm) bm (N 0) (N 1) := ⟨hinj, fun j hj => ⟨j, hj, rfl⟩, hn8, hAx.2.2.2.2.2.2.2.1⟩
  have hAn : ∀ q, H.size ≤ q → cF s.heap.size o bm q := fun q hq => ⟨Nat.le_trans hS.1 hq, fun z => by have := hO.lt; omega, fun j hj z => by have := (hY j hj).lt; omega⟩
  refine lv_aload_n hx hb dL_law_883 rfl (lv_at hl 3 rfl) ?_
  refine lv_aload_n hx hb dL_law_884 rfl (lv_at hl 4 rfl) ?_
  refine lv_iload hx hb dL_law_885 (lv_at hl 0 rfl) ?_
  refine lv_iconst (v := nI 1) hx hb dL_law_887 (by decide) ?_
  refine lv_iadd hx hb dL_law_888 ?_
  refine xtop (show ((nI (i)) + (nI 1)) = nI (i + 1) from nI_add i 1) ?_
  refine va_sld hx hb hXs hbl hbA hS (i := nI (i + 1)) (vp_in_nI (n := i + 1) (by omega) (by omega)) dL_law_889 ?_
  refine xtop (show (xs (nI (i + 1)).toNatClampNeg) = xs (i + 1) from by rw [nI_clamp (n := i + 1) (by omega)]) ?_
  refine lv_aload_n hx hb dL_law_890 rfl (lv_at hl 1 rfl) ?_
  refine xci (vx_runSW (As := [.ref (ad 0 0), .int (xs (i + 1)), .ref (o)]) (rest := []) ⟨hx, hb, hml, hown, hts⟩ (c_L_minutes l D cA e0 (cO s.heap.size o bm) H ad g tt N hX (xs (i + 1)) (cF s.heap.size o bm) hF hAx hW o f0 hO (Or.inr rfl) hoF hl9) (callSW_of 3 hts gi_L_minutes rfl rfl rfl (hts _ q_ini_L) (hts _ q_ml_L_118) (hts _ q_st_L_minutes) hd_L_minutes ⟨Nat.le_of_ble_eq_true rfl, Nat.le_of_ble_eq_true rfl⟩) (xpSw hE hNc hS hFo) rfl rfl hl.1 rfl (lv_room (Nat.le_of_ble_eq_true rfl)) dL_law_891 ⟨(show 24 + 9 * t + 1 ≤ 601024 by omega), (show 4951 + 56 * t + 6 ≤ 7293033 by omega)⟩) hS hFo (fun r9 H1 locs hP9 hz9 hk9 hS => ?_)
  refine W.widen (k := 24 + 9 * (t + 1)) (n := 4951 + 56 * (t + 1)) (by omega) (by omega) ?_
  have hY1 : yW D cA bm g tt (N 0) (N 1) H1 := hY.keep (fun j hj => hk9 _ (hY j hj).lt (hbO j hj))
  rcases hP9 with ⟨hr9, f1, hO1, p1, hf1, g1, hX1, hv1⟩ | ⟨hr9, hc, hX1, hO1⟩
  · rw [hr9]
    refine lv_istore (lv' := [(5, .int (nI 0)), (4, .int (nI (i))), (3, .ref (o)), (2, .ref (bm 0)), (1, .ref (ad 0 0)), (0, .ref (b))]) hx hb dL_law_894 hl (by decide) rfl (fun ls hl => ?_)
    refine lv_aload_n hx hb dL_law_896 rfl (lv_at hl 3 rfl) ?_
    refine lv_aload_n hx hb dL_law_897 rfl (lv_at hl 5 rfl) ?_
    refine lv_iload hx hb dL_law_898 (lv_at hl 1 rfl) ?_
    refine lv_iconst (v := nI 1) hx hb dL_law_900 (by decide) ?_
    refine lv_iadd hx hb dL_law_901 ?_
    refine xtop (show ((nI (i)) + (nI 1)) = nI (i + 1) from nI_add i 1) ?_
    refine va_sld hx hb hXs hbl hbA hS (i := nI (i + 1)) (vp_in_nI (n := i + 1) (by omega) (by omega)) dL_law_902 ?_
    refine xtop (show (xs (nI (i + 1)).toNatClampNeg) = xs (i + 1) from by rw [nI_clamp (n := i + 1) (by omega)]) ?_
    refine xci (va_runV (As := [.int (xs (i + 1))]) (rest := []) ⟨hx, hb, hml, hown, hts⟩ (c_X5_minutes l D cA e0 (cM bm) H1 bm g tt (N 0) (N 1) hY1 hYA (xs (i + 1))) ⟨(callB_of 1 hts gi_X5_minutes rfl rfl rfl (hts _ q_ini_X5) (hts _ q_ml_L_120) hd_X5_minutes ⟨Nat.le_of_ble_eq_true rfl, Nat.le_of_ble_eq_true rfl⟩), hts _ q_im_X5_minutes, hts _ q_sel_X5_X5_minutes⟩ (xpVn hE hS hcM (hY1.main) rfl) rfl rfl hl.1 rfl (lv_room (Nat.le_of_ble_eq_true rfl)) dL_law_903 ⟨(show 24 + 9 * (t + 1) + 0 ≤ 601024 by omega), (show 4951 + 56 * (t + 1) + 0 ≤ 7293033 by omega)⟩) hS hcM (fun r8 H2 locs hQ9 hz8 hk8 hS => ?_)
    refine W.widen (k := 24 + 9 * (t + 1)) (n := 4951 + 56 * (t + 1)) (by omega) (by omega) ?_
    have hX2 := hX1.mod hAx hk8
    have hO2 := hO1.kept (hk8 _ hO1.lt hoM)
    rcases hQ9 with ⟨m1, hr2, g2, hY2, he2⟩ | ⟨m1, hY2⟩
    · have hcmp : f1 0 = r8.toInt64 := by rw [hf1, hr2]
      refine lv_istore (lv' := [(6, .int (r8)), (5, .int (nI 0)), (4, .int (nI (i))), (3, .ref (o)), (2, .ref (bm 0)), (1, .ref (ad 0 0)), (0, .ref (b))]) hx hb dL_law_906 hl (by decide) rfl (fun ls hl => ?_)
      refine lv_aload_n hx hb dL_law_908 rfl (lv_at hl 4 rfl) ?_
      refine xcRi (va_runV (As := []) (rest := []) ⟨hx, hb, hml, hown, hts⟩ (c_X5_thrown l D cA e0 (lwA s) _ bm _ _ _ _ hY2) ⟨(callB_of 0 hts gi_X5_thrown rfl rfl rfl (hts _ q_ini_X5) (hts _ q_ml_L_72) hd_X5_thrown ⟨Nat.le_of_ble_eq_true rfl, Nat.le_of_ble_eq_true rfl⟩), hts _ q_im_X5_thrown, hts _ q_sel_X5_X5_thrown⟩ (xpV hE hS (hY2.main) rfl) rfl rfl hl.1 rfl (lv_room (Nat.le_of_ble_eq_true rfl)) dL_law_909 ⟨(show 24 + 9 * (t + 1) + 0 ≤ 601024 by omega), (show 4951 + 56 * (t + 1) + 0 ≤ 7293033 by omega)⟩) ?_
      refine xtop (show _ = nI 0 from he2.2) ?_
      refine lv_iload hx hb dL_law_912 (lv_at hl 1 rfl) ?_
      refine lv_icmp_eq (tgt := 919) hx hb dL_law_914 (by decide) (fun _ => ?_) (fun hno => absurd (rfl) hno)
      refine lv_iload hx hb dL_law_919 (lv_at hl 1 rfl) ?_
      refine lv_if_ne (tgt := 936) hx hb dL_law_921 (by decide) (fun hno => absurd hno (fun z => z rfl)) (fun _ => ?_)
      refine lv_aload_n hx hb dL_law_924 rfl (lv_at hl 3 rfl) ?_
      refine lv_iconst (v := nI 0) hx hb dL_law_925 (by decide) ?_
      refine va_lald hx hb hK (xP1 (hO2)) 0 1 rfl rfl (i := nI 0) (vp_in_nI (n := 0) (by omega) (by omega)) dL_law_926 ?_
      refine xtopL (show ((fun z => f1 (z)) (nI 0).toNatClampNeg) = f1 (0) from by rw [nI_clamp (n := 0) (by omega)]) ?_
      refine lv_iload hx hb dL_law_927 (lv_at hl 0 rfl) ?_
      refine lv_i2l (v := r8.toInt64) hx hb dL_law_929 rfl ?_
      refine W.lcmp hx hb dL_law_930 ?_
      refine xtop (show lg_cmp (f1 (0)) (r8.toInt64) = nI 0 from by rw [hcmp]; exact lg_self _) ?_
      refine lv_if_eq (tgt := 936) hx hb dL_law_931 (by decide) (fun _ => ?_) (fun hno => absurd (rfl) hno)
      refine lv_goto (tgt := 1185) hx hb dL_law_936 (by decide) ?_
      exact K _ _ _ _ _ _ _ (LI_eqY hLI hX2 hv1.1 hY2 he2.1 ⟨_, hO2⟩) hS (lv_sub hl [2, 3, 4, 5, 6] rfl)
    · exact (m1 p1).elim
  · rw [hr9]
    refine lv_istore (lv' := [(5, .int (nI 1)), (4, .int (nI (i))), (3, .ref (o)), (2, .ref (bm 0)), (1, .ref (ad 0 0)), (0, .ref (b))]) hx hb dL_law_894 hl (by decide) rfl (fun ls hl => ?_)
    refine lv_aload_n hx hb dL_law_896 rfl (lv_at hl 3 rfl) ?_
    refine lv_aload_n hx hb dL_law_897 rfl (lv_at hl 5 rfl) ?_
    refine lv_iload hx hb dL_law_898 (lv_at hl 1 rfl) ?_
    refine lv_iconst (v := nI 1) hx hb dL_law_900 (by decide) ?_
    refine lv_iadd hx hb dL_law_901 ?_
    refine xtop (show ((nI (i)) + (nI 1)) = nI (i + 1) from nI_add i 1) ?_
    refine va_sld hx hb hXs hbl hbA hS (i := nI (i + 1)) (vp_in_nI (n := i + 1) (by omega) (by omega)) dL_law_902 ?_
    refine xtop (show (xs (nI (i + 1)).toNatClampNeg) = xs (i + 1) from by rw [nI_clamp (n := i + 1) (by omega)]) ?_
    refine xci (va_runV (As := [.int (xs (i + 1))]) (rest := []) ⟨hx, hb, hml, hown, hts⟩ (c_X5_minutes l D cA e0 (cM bm) H1 bm g tt (N 0) (N 1) hY1 hYA (xs (i + 1))) ⟨(callB_of 1 hts gi_X5_minutes rfl rfl rfl (hts _ q_ini_X5) (hts _ q_ml_L_120) hd_X5_minutes ⟨Nat.le_of_ble_eq_true rfl, Nat.le_of_ble_eq_true rfl⟩), hts _ q_im_X5_minutes, hts _ q_sel_X5_X5_minutes⟩ (xpVn hE hS hcM (hY1.main) rfl) rfl rfl hl.1 rfl (lv_room (Nat.le_of_ble_eq_true rfl)) dL_law_903 ⟨(show 24 + 9 * (t + 1) + 0 ≤ 601024 by omega), (show 4951 + 56 * (t + 1) + 0 ≤ 7293033 by omega)⟩) hS hcM (fun r8 H2 locs hQ9 hz8 hk8 hS => ?_)
    refine W.widen (k := 24 + 9 * (t + 1)) (n := 4951 + 56 * (t + 1)) (by omega) (by omega) ?_
    have hX2 := hX1.mod hAx hk8
    have hO2 := hO1.kept (hk8 _ hO1.lt hoM)
    rcases hQ9 with ⟨m1, hr2, g2, hY2, he2⟩ | ⟨m1, hY2⟩
    · exact (hc m1).elim
    · refine lv_istore (lv' := [(6, .int (r8)), (5, .int (nI 1)), (4, .int (nI (i))), (3, .ref (o)), (2, .ref (bm 0)), (1, .ref (ad 0 0)), (0, .ref (b))]) hx hb dL_law_906 hl (by decide) rfl (fun ls hl => ?_)
      refine lv_aload_n hx hb dL_law_908 rfl (lv_at hl 4 rfl) ?_
      refine xcRi (va_runV (As := []) (rest := []) ⟨hx, hb, hml, hown, hts⟩ (c_X5_thrown l D cA e0 (lwA s) _ bm _ _ _ _ hY2) ⟨(callB_of 0 hts gi_X5_thrown rfl rfl rfl (hts _ q_ini_X5) (hts _ q_ml_L_72) hd_X5_thrown ⟨Nat.le_of_ble_eq_true rfl, Nat.le_of_ble_eq_true rfl⟩), hts _ q_im_X5_thrown, hts _ q_sel_X5_X5_thrown⟩ (xpV hE hS (hY2.main) rfl) rfl rfl hl.1 rfl (lv_room (Nat.le_of_ble_eq_true rfl)) dL_law_909 ⟨(show 24 + 9 * (t + 1) + 0 ≤ 601024 by omega), (show 4951 + 56 * (t + 1) + 0 ≤ 7293033 by omega)⟩) ?_
      refine xtop (show _ = nI 1 from thG_20 g 1) ?_
      refine lv_iload hx hb dL_law_912 (lv_at hl 1 rfl) ?_
      refine lv_icmp_eq (tgt := 919) hx hb dL_law_914 (by decide) (fun _ => ?_) (fun hno => absurd (rfl) hno)
      refine lv_iload hx hb dL_law_919 (lv_at hl 1 rfl) ?_
      refine lv_if_ne (tgt := 936) hx hb dL_law_921 (by decide) (fun _ => ?_) (fun hno => absurd hno ((by decide)))
      refine lv_goto (tgt := 1185) hx hb dL_law_936 (by decide) ?_
      exact K _ _ _ _ _ _ _ (LI_eqY hLI hX2 (fun _ _ _ _ => rfl) hY2 (fun t9 a9 _ => thG_t g 1 a9) ⟨_, hO2⟩) hS (lv_sub hl [2, 3, 4, 5, 6] rfl)
