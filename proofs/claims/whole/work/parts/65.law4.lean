/-! The law's calls 14 to 18 (by p62.py) -/
set_option maxHeartbeats 4000000 in
set_option maxRecDepth 100000 in
/-- the law's call 14: best -/
theorem law_c_14 {p : Program} {l : Launch} {e : Env} {s : State} {m : MethodId} {below : List Frame} {meth : Method} {c : Code} {b L : Nat} {xs : Nat → Int32} {D : va_G} {cA : Nat → ClassId} {e0 x0 o : Nat} {bm : Nat → Nat} (C : lwC p l s m meth c b L xs D cA e0 o bm) {i t : Nat} (hi : i + 5 ≤ L) (ht : t < 512) {ad : Nat → Nat → Nat} {g : Nat → Nat → Int32} {tt : Nat → Int64} {N : Nat → Nat} {H : Heap} {locs : List Loc} {ls : Array Slot} (hLI : LI D cA e0 s.heap.size x0 o bm ad g tt N H) (hS : va_S (lwA s) s.heap H locs) (hl : lv_has ls 9 [(4, .int (nI (i))), (3, .ref o), (2, .ref (bm 0)), (1, .ref x0), (0, .ref b)]) (K : lwK p l e s m below meth c b D cA e0 x0 o bm i t) : W p l e room_1 s m #[Value.ref b] below meth c H locs (24 + 9 * t) (4951 + 56 * t) (lw_Z below #[Value.ref b] s) (F0 m 939 ls []) := by
  obtain ⟨hx, hb, hr, hml, hown, hE, hNc, hXs, hbl, hlocks, hLb, hbm, hinj, ho, hob, hl9⟩ := C
  have hts := hE.1.all #[Value.ref b]
  have hK := hE.2.1
  obtain ⟨hX, hAx, hY, hI, hW, hdf, hN2, hdy, hP, hC, ⟨f0, hO⟩, rfl⟩ := id hLI
  have hn8 := hAx.n8
  have hbA : ¬ lwA s b := Nat.not_le.mpr hbl
  have hF : ∀ q, cF s.heap.size o bm q → cO s.heap.size o bm q := fun q h => Or.inl h
  have hFF : ∀ q, cF s.heap.size o bm q → lwA s q := fun q h => h.1
  have hFo : ∀ q, cO s.heap.size o bm q → lwA s q := fun q h => h.elim (fun z => z.1) (fun z => by rw [z]; exact ho)
  have hoF : ¬ cF s.heap.size o bm o := fun z => z.2.1 rfl
  have hcM : ∀ q, cM bm q → lwA s q := fun q ⟨j, hj, z⟩ => by rw [z]; exact hbm j hj
  have hbO : ∀ j, j < 14 → ¬ cO s.heap.size o bm (bm j) := fun j hj z => z.elim (fun z => z.2.2 j hj rfl) (fun z => hob j hj z.symm)
  have hoM : ¬ cM bm o := fun ⟨j, hj, z⟩ => hob j hj z
  have hYA : yA (cM bm) bm (N 0) (N 1) := ⟨hinj, fun j hj => ⟨j, hj, rfl⟩, hn8, hAx.2.2.2.2.2.2.2.1⟩
  have hAn : ∀ q, H.size ≤ q → cF s.heap.size o bm q := fun q hq => ⟨Nat.le_trans hS.1 hq, fun z => by have := hO.lt; omega, fun j hj z => by have := (hY j hj).lt; omega⟩
  refine lv_aload_n hx hb dL_law_939 rfl (lv_at hl 3 rfl) ?_
  refine lv_aload_n hx hb dL_law_940 rfl (lv_at hl 4 rfl) ?_
  refine lv_iload hx hb dL_law_941 (lv_at hl 0 rfl) ?_
  refine lv_iconst (v := nI 1) hx hb dL_law_943 (by decide) ?_
  refine lv_iadd hx hb dL_law_944 ?_
  refine xtop (show ((nI (i)) + (nI 1)) = nI (i + 1) from nI_add i 1) ?_
  refine va_sld hx hb hXs hbl hbA hS (i := nI (i + 1)) (vp_in_nI (n := i + 1) (by omega) (by omega)) dL_law_945 ?_
  refine xtop (show (xs (nI (i + 1)).toNatClampNeg) = xs (i + 1) from by rw [nI_clamp (n := i + 1) (by omega)]) ?_
  refine lv_aload_n hx hb dL_law_946 rfl (lv_at hl 4 rfl) ?_
  refine lv_iload hx hb dL_law_947 (lv_at hl 0 rfl) ?_
  refine lv_iconst (v := nI 2) hx hb dL_law_949 (by decide) ?_
  refine lv_iadd hx hb dL_law_950 ?_
  refine xtop (show ((nI (i)) + (nI 2)) = nI (i + 2) from nI_add i 2) ?_
  refine va_sld hx hb hXs hbl hbA hS (i := nI (i + 2)) (vp_in_nI (n := i + 2) (by omega) (by omega)) dL_law_951 ?_
  refine xtop (show (xs (nI (i + 2)).toNatClampNeg) = xs (i + 2) from by rw [nI_clamp (n := i + 2) (by omega)]) ?_
  refine lv_aload_n hx hb dL_law_952 rfl (lv_at hl 1 rfl) ?_
  refine xci (vx_runSW (As := [.ref (ad 0 0), .int (xs (i + 1)), .int (xs (i + 2)), .ref (o)]) (rest := []) ⟨hx, hb, hml, hown, hts⟩ (c_L_best l D cA e0 (cO s.heap.size o bm) H ad g tt N hX (xs (i + 1)) (xs (i + 2)) (cF s.heap.size o bm) hF hAx hW o f0 hO (Or.inr rfl) hoF hl9) (callSW_of 4 hts gi_L_best rfl rfl rfl (hts _ q_ini_L) (hts _ q_ml_L_121) (hts _ q_st_L_best) hd_L_best ⟨Nat.le_of_ble_eq_true rfl, Nat.le_of_ble_eq_true rfl⟩) (xpSw hE hNc hS hFo) rfl rfl hl.1 rfl (lv_room (Nat.le_of_ble_eq_true rfl)) dL_law_953 ⟨(show 24 + 9 * t + 1 ≤ 601024 by omega), (show 4951 + 56 * t + 6 ≤ 7293033 by omega)⟩) hS hFo (fun r9 H1 locs hP9 hz9 hk9 hS => ?_)
  refine W.widen (k := 24 + 9 * (t + 1)) (n := 4951 + 56 * (t + 1)) (by omega) (by omega) ?_
  have hY1 : yW D cA bm g tt (N 0) (N 1) H1 := hY.keep (fun j hj => hk9 _ (hY j hj).lt (hbO j hj))
  rcases hP9 with ⟨hr9, f1, hO1, p1, hf1, g1, hX1, hv1⟩ | ⟨hr9, hc, hX1, hO1⟩
  · rw [hr9]
    refine lv_istore (lv' := [(5, .int (nI 0)), (4, .int (nI (i))), (3, .ref (o)), (2, .ref (bm 0)), (1, .ref (ad 0 0)), (0, .ref (b))]) hx hb dL_law_956 hl (by decide) rfl (fun ls hl => ?_)
    refine lv_aload_n hx hb dL_law_958 rfl (lv_at hl 3 rfl) ?_
    refine lv_aload_n hx hb dL_law_959 rfl (lv_at hl 5 rfl) ?_
    refine lv_iload hx hb dL_law_960 (lv_at hl 1 rfl) ?_
    refine lv_iconst (v := nI 1) hx hb dL_law_962 (by decide) ?_
    refine lv_iadd hx hb dL_law_963 ?_
    refine xtop (show ((nI (i)) + (nI 1)) = nI (i + 1) from nI_add i 1) ?_
    refine va_sld hx hb hXs hbl hbA hS (i := nI (i + 1)) (vp_in_nI (n := i + 1) (by omega) (by omega)) dL_law_964 ?_
    refine xtop (show (xs (nI (i + 1)).toNatClampNeg) = xs (i + 1) from by rw [nI_clamp (n := i + 1) (by omega)]) ?_
    refine lv_aload_n hx hb dL_law_965 rfl (lv_at hl 5 rfl) ?_
    refine lv_iload hx hb dL_law_966 (lv_at hl 1 rfl) ?_
    refine lv_iconst (v := nI 2) hx hb dL_law_968 (by decide) ?_
    refine lv_iadd hx hb dL_law_969 ?_
    refine xtop (show ((nI (i)) + (nI 2)) = nI (i + 2) from nI_add i 2) ?_
    refine va_sld hx hb hXs hbl hbA hS (i := nI (i + 2)) (vp_in_nI (n := i + 2) (by omega) (by omega)) dL_law_970 ?_
    refine xtop (show (xs (nI (i + 2)).toNatClampNeg) = xs (i + 2) from by rw [nI_clamp (n := i + 2) (by omega)]) ?_
    refine xci (va_runV (As := [.int (xs (i + 1)), .int (xs (i + 2))]) (rest := []) ⟨hx, hb, hml, hown, hts⟩ (c_X5_best l D cA e0 (cM bm) H1 bm g tt (N 0) (N 1) hY1 hYA (xs (i + 1)) (xs (i + 2))) ⟨(callB_of 2 hts gi_X5_best rfl rfl rfl (hts _ q_ini_X5) (hts _ q_ml_L_123) hd_X5_best ⟨Nat.le_of_ble_eq_true rfl, Nat.le_of_ble_eq_true rfl⟩), hts _ q_im_X5_best, hts _ q_sel_X5_X5_best⟩ (xpVn hE hS hcM (hY1.main) rfl) rfl rfl hl.1 rfl (lv_room (Nat.le_of_ble_eq_true rfl)) dL_law_971 ⟨(show 24 + 9 * (t + 1) + 0 ≤ 601024 by omega), (show 4951 + 56 * (t + 1) + 0 ≤ 7293033 by omega)⟩) hS hcM (fun r8 H2 locs hQ9 hz8 hk8 hS => ?_)
    refine W.widen (k := 24 + 9 * (t + 1)) (n := 4951 + 56 * (t + 1)) (by omega) (by omega) ?_
    have hX2 := hX1.mod hAx hk8
    have hO2 := hO1.kept (hk8 _ hO1.lt hoM)
    rcases hQ9 with ⟨m1, hr2, g2, hY2, he2⟩ | ⟨m1, hY2⟩
    · have hcmp : f1 0 = r8.toInt64 := by rw [hf1, hr2]
      refine lv_istore (lv' := [(6, .int (r8)), (5, .int (nI 0)), (4, .int (nI (i))), (3, .ref (o)), (2, .ref (bm 0)), (1, .ref (ad 0 0)), (0, .ref (b))]) hx hb dL_law_974 hl (by decide) rfl (fun ls hl => ?_)
      refine lv_aload_n hx hb dL_law_976 rfl (lv_at hl 4 rfl) ?_
      refine xcRi (va_runV (As := []) (rest := []) ⟨hx, hb, hml, hown, hts⟩ (c_X5_thrown l D cA e0 (lwA s) _ bm _ _ _ _ hY2) ⟨(callB_of 0 hts gi_X5_thrown rfl rfl rfl (hts _ q_ini_X5) (hts _ q_ml_L_72) hd_X5_thrown ⟨Nat.le_of_ble_eq_true rfl, Nat.le_of_ble_eq_true rfl⟩), hts _ q_im_X5_thrown, hts _ q_sel_X5_X5_thrown⟩ (xpV hE hS (hY2.main) rfl) rfl rfl hl.1 rfl (lv_room (Nat.le_of_ble_eq_true rfl)) dL_law_977 ⟨(show 24 + 9 * (t + 1) + 0 ≤ 601024 by omega), (show 4951 + 56 * (t + 1) + 0 ≤ 7293033 by omega)⟩) ?_
      refine xtop (show _ = nI 0 from he2.2) ?_
      refine lv_iload hx hb dL_law_980 (lv_at hl 1 rfl) ?_
      refine lv_icmp_eq (tgt := 987) hx hb dL_law_982 (by decide) (fun _ => ?_) (fun hno => absurd (rfl) hno)
      refine lv_iload hx hb dL_law_987 (lv_at hl 1 rfl) ?_
      refine lv_if_ne (tgt := 1004) hx hb dL_law_989 (by decide) (fun hno => absurd hno (fun z => z rfl)) (fun _ => ?_)
      refine lv_aload_n hx hb dL_law_992 rfl (lv_at hl 3 rfl) ?_
      refine lv_iconst (v := nI 0) hx hb dL_law_993 (by decide) ?_
      refine va_lald hx hb hK (xP1 (hO2)) 0 1 rfl rfl (i := nI 0) (vp_in_nI (n := 0) (by omega) (by omega)) dL_law_994 ?_
      refine xtopL (show ((fun z => f1 (z)) (nI 0).toNatClampNeg) = f1 (0) from by rw [nI_clamp (n := 0) (by omega)]) ?_
      refine lv_iload hx hb dL_law_995 (lv_at hl 0 rfl) ?_
      refine lv_i2l (v := r8.toInt64) hx hb dL_law_997 rfl ?_
      refine W.lcmp hx hb dL_law_998 ?_
      refine xtop (show lg_cmp (f1 (0)) (r8.toInt64) = nI 0 from by rw [hcmp]; exact lg_self _) ?_
      refine lv_if_eq (tgt := 1004) hx hb dL_law_999 (by decide) (fun _ => ?_) (fun hno => absurd (rfl) hno)
      refine lv_goto (tgt := 1185) hx hb dL_law_1004 (by decide) ?_
      exact K _ _ _ _ _ _ _ (LI_eqY hLI hX2 hv1.1 hY2 he2.1 ⟨_, hO2⟩) hS (lv_sub hl [2, 3, 4, 5, 6] rfl)
    · exact (m1 p1).elim
  · rw [hr9]
    refine lv_istore (lv' := [(5, .int (nI 1)), (4, .int (nI (i))), (3, .ref (o)), (2, .ref (bm 0)), (1, .ref (ad 0 0)), (0, .ref (b))]) hx hb dL_law_956 hl (by decide) rfl (fun ls hl => ?_)
    refine lv_aload_n hx hb dL_law_958 rfl (lv_at hl 3 rfl) ?_
    refine lv_aload_n hx hb dL_law_959 rfl (lv_at hl 5 rfl) ?_
    refine lv_iload hx hb dL_law_960 (lv_at hl 1 rfl) ?_
    refine lv_iconst (v := nI 1) hx hb dL_law_962 (by decide) ?_
    refine lv_iadd hx hb dL_law_963 ?_
    refine xtop (show ((nI (i)) + (nI 1)) = nI (i + 1) from nI_add i 1) ?_
    refine va_sld hx hb hXs hbl hbA hS (i := nI (i + 1)) (vp_in_nI (n := i + 1) (by omega) (by omega)) dL_law_964 ?_
    refine xtop (show (xs (nI (i + 1)).toNatClampNeg) = xs (i + 1) from by rw [nI_clamp (n := i + 1) (by omega)]) ?_
    refine lv_aload_n hx hb dL_law_965 rfl (lv_at hl 5 rfl) ?_
    refine lv_iload hx hb dL_law_966 (lv_at hl 1 rfl) ?_
    refine lv_iconst (v := nI 2) hx hb dL_law_968 (by decide) ?_
    refine lv_iadd hx hb dL_law_969 ?_
    refine xtop (show ((nI (i)) + (nI 2)) = nI (i + 2) from nI_add i 2) ?_
    refine va_sld hx hb hXs hbl hbA hS (i := nI (i + 2)) (vp_in_nI (n := i + 2) (by omega) (by omega)) dL_law_970 ?_
    refine xtop (show (xs (nI (i + 2)).toNatClampNeg) = xs (i + 2) from by rw [nI_clamp (n := i + 2) (by omega)]) ?_
    refine xci (va_runV (As := [.int (xs (i + 1)), .int (xs (i + 2))]) (rest := []) ⟨hx, hb, hml, hown, hts⟩ (c_X5_best l D cA e0 (cM bm) H1 bm g tt (N 0) (N 1) hY1 hYA (xs (i + 1)) (xs (i + 2))) ⟨(callB_of 2 hts gi_X5_best rfl rfl rfl (hts _ q_ini_X5) (hts _ q_ml_L_123) hd_X5_best ⟨Nat.le_of_ble_eq_true rfl, Nat.le_of_ble_eq_true rfl⟩), hts _ q_im_X5_best, hts _ q_sel_X5_X5_best⟩ (xpVn hE hS hcM (hY1.main) rfl) rfl rfl hl.1 rfl (lv_room (Nat.le_of_ble_eq_true rfl)) dL_law_971 ⟨(show 24 + 9 * (t + 1) + 0 ≤ 601024 by omega), (show 4951 + 56 * (t + 1) + 0 ≤ 7293033 by omega)⟩) hS hcM (fun r8 H2 locs hQ9 hz8 hk8 hS => ?_)
    refine W.widen (k := 24 + 9 * (t + 1)) (n := 4951 + 56 * (t + 1)) (by omega) (by omega) ?_
    have hX2 := hX1.mod hAx hk8
    have hO2 := hO1.kept (hk8 _ hO1.lt hoM)
    rcases hQ9 with ⟨m1, hr2, g2, hY2, he2⟩ | ⟨m1, hY2⟩
    · exact (hc m1).elim
    · refine lv_istore (lv' := [(6, .int (r8)), (5, .int (nI 1)), (4, .int (nI (i))), (3, .ref (o)), (2, .ref (bm 0)), (1, .ref (ad 0 0)), (0, .ref (b))]) hx hb dL_law_974 hl (by decide) rfl (fun ls hl => ?_)
      refine lv_aload_n hx hb dL_law_976 rfl (lv_at hl 4 rfl) ?_
      refine xcRi (va_runV (As := []) (rest := []) ⟨hx, hb, hml, hown, hts⟩ (c_X5_thrown l D cA e0 (lwA s) _ bm _ _ _ _ hY2) ⟨(callB_of 0 hts gi_X5_thrown rfl rfl rfl (hts _ q_ini_X5) (hts _ q_ml_L_72) hd_X5_thrown ⟨Nat.le_of_ble_eq_true rfl, Nat.le_of_ble_eq_true rfl⟩), hts _ q_im_X5_thrown, hts _ q_sel_X5_X5_thrown⟩ (xpV hE hS (hY2.main) rfl) rfl rfl hl.1 rfl (lv_room (Nat.le_of_ble_eq_true rfl)) dL_law_977 ⟨(show 24 + 9 * (t + 1) + 0 ≤ 601024 by omega), (show 4951 + 56 * (t + 1) + 0 ≤ 7293033 by omega)⟩) ?_
      refine xtop (show _ = nI 1 from thG_20 g 1) ?_
      refine lv_iload hx hb dL_law_980 (lv_at hl 1 rfl) ?_
      refine lv_icmp_eq (tgt := 987) hx hb dL_law_982 (by decide) (fun _ => ?_) (fun hno => absurd (rfl) hno)
      refine lv_iload hx hb dL_law_987 (lv_at hl 1 rfl) ?_
      refine lv_if_ne (tgt := 1004) hx hb dL_law_989 (by decide) (fun _ => ?_) (fun hno => absurd hno ((by decide)))
      refine lv_goto (tgt := 1185) hx hb dL_law_1004 (by decide) ?_
      exact K _ _ _ _ _ _ _ (LI_eqY hLI hX2 (fun _ _ _ _ => rfl) hY2 (fun t9 a9 _ => thG_t g 1 a9) ⟨_, hO2⟩) hS (lv_sub hl [2, 3, 4, 5, 6] rfl)
set_option maxHeartbeats 4000000 in
set_option maxRecDepth 100000 in
/-- the law's call 15: go -/
theorem law_c_15 {p : Program} {l : Launch} {e : Env} {s : State} {m : MethodId} {below : List Frame} {meth : Method} {c : Code} {b L : Nat} {xs : Nat → Int32} {D : va_G} {cA : Nat → ClassId} {e0 x0 o : Nat} {bm : Nat → Nat} (C : lwC p l s m meth c b L xs D cA e0 o bm) {i t : Nat} (hi : i + 5 ≤ L) (ht : t < 512) {ad : Nat → Nat → Nat} {g : Nat → Nat → Int32} {tt : Nat → Int64} {N : Nat → Nat} {H : Heap} {locs : List Loc} {ls : Array Slot} (hLI : LI D cA e0 s.heap.size x0 o bm ad g tt N H) (hS : va_S (lwA s) s.heap H locs) (hl : lv_has ls 9 [(4, .int (nI (i))), (3, .ref o), (2, .ref (bm 0)), (1, .ref x0), (0, .ref b)]) (K : lwK p l e s m below meth c b D cA e0 x0 o bm i t) : W p l e room_1 s m #[Value.ref b] below meth c H locs (24 + 9 * t) (4951 + 56 * t) (lw_Z below #[Value.ref b] s) (F0 m 1007 ls []) := by
  obtain ⟨hx, hb, hr, hml, hown, hE, hNc, hXs, hbl, hlocks, hLb, hbm, hinj, ho, hob, hl9⟩ := C
  have hts := hE.1.all #[Value.ref b]
  have hK := hE.2.1
  obtain ⟨hX, hAx, hY, hI, hW, hdf, hN2, hdy, hP, hC, ⟨f0, hO⟩, rfl⟩ := id hLI
  have hn8 := hAx.n8
  have hbA : ¬ lwA s b := Nat.not_le.mpr hbl
  have hF : ∀ q, cF s.heap.size o bm q → cO s.heap.size o bm q := fun q h => Or.inl h
  have hFF : ∀ q, cF s.heap.size o bm q → lwA s q := fun q h => h.1
  have hFo : ∀ q, cO s.heap.size o bm q → lwA s q := fun q h => h.elim (fun z => z.1) (fun z => by rw [z]; exact ho)
  have hoF : ¬ cF s.heap.size o bm o := fun z => z.2.1 rfl
  have hcM : ∀ q, cM bm q → lwA s q := fun q ⟨j, hj, z⟩ => by rw [z]; exact hbm j hj
  have hbO : ∀ j, j < 14 → ¬ cO s.heap.size o bm (bm j) := fun j hj z => z.elim (fun z => z.2.2 j hj rfl) (fun z => hob j hj z.symm)
  have hoM : ¬ cM bm o := fun ⟨j, hj, z⟩ => hob j hj z
  have hYA : yA (cM bm) bm (N 0) (N 1) := ⟨hinj, fun j hj => ⟨j, hj, rfl⟩, hn8, hAx.2.2.2.2.2.2.2.1⟩
  have hAn : ∀ q, H.size ≤ q → cF s.heap.size o bm q := fun q hq => ⟨Nat.le_trans hS.1 hq, fun z => by have := hO.lt; omega, fun j hj z => by have := (hY j hj).lt; omega⟩
  refine lv_aload_n hx hb dL_law_1007 rfl (lv_at hl 3 rfl) ?_
  refine lv_aload_n hx hb dL_law_1008 rfl (lv_at hl 4 rfl) ?_
  refine lv_iload hx hb dL_law_1009 (lv_at hl 0 rfl) ?_
  refine lv_iconst (v := nI 1) hx hb dL_law_1011 (by decide) ?_
  refine lv_iadd hx hb dL_law_1012 ?_
  refine xtop (show ((nI (i)) + (nI 1)) = nI (i + 1) from nI_add i 1) ?_
  refine va_sld hx hb hXs hbl hbA hS (i := nI (i + 1)) (vp_in_nI (n := i + 1) (by omega) (by omega)) dL_law_1013 ?_
  refine xtop (show (xs (nI (i + 1)).toNatClampNeg) = xs (i + 1) from by rw [nI_clamp (n := i + 1) (by omega)]) ?_
  refine lv_aload_n hx hb dL_law_1014 rfl (lv_at hl 4 rfl) ?_
  refine lv_iload hx hb dL_law_1015 (lv_at hl 0 rfl) ?_
  refine lv_iconst (v := nI 2) hx hb dL_law_1017 (by decide) ?_
  refine lv_iadd hx hb dL_law_1018 ?_
  refine xtop (show ((nI (i)) + (nI 2)) = nI (i + 2) from nI_add i 2) ?_
  refine va_sld hx hb hXs hbl hbA hS (i := nI (i + 2)) (vp_in_nI (n := i + 2) (by omega) (by omega)) dL_law_1019 ?_
  refine xtop (show (xs (nI (i + 2)).toNatClampNeg) = xs (i + 2) from by rw [nI_clamp (n := i + 2) (by omega)]) ?_
  refine lv_aload_n hx hb dL_law_1020 rfl (lv_at hl 1 rfl) ?_
  refine xci (vx_runSW (As := [.ref (ad 0 0), .int (xs (i + 1)), .int (xs (i + 2)), .ref (o)]) (rest := []) ⟨hx, hb, hml, hown, hts⟩ (c_L_go l D cA e0 (cO s.heap.size o bm) H ad g tt N hX (xs (i + 1)) (xs (i + 2)) (cF s.heap.size o bm) hF hAx hW hI o f0 hO (Or.inr rfl) hoF hl9) (callSW_of 4 hts gi_L_go rfl rfl rfl (hts _ q_ini_L) (hts _ q_ml_L_124) (hts _ q_st_L_go) hd_L_go ⟨Nat.le_of_ble_eq_true rfl, Nat.le_of_ble_eq_true rfl⟩) (xpSw hE hNc hS hFo) rfl rfl hl.1 rfl (lv_room (Nat.le_of_ble_eq_true rfl)) dL_law_1021 ⟨(show 24 + 9 * t + 2 ≤ 601024 by omega), (show 4951 + 56 * t + 12 ≤ 7293033 by omega)⟩) hS hFo (fun r9 H1 locs hP9 hz9 hk9 hS => ?_)
  refine W.widen (k := 24 + 9 * (t + 1)) (n := 4951 + 56 * (t + 1)) (by omega) (by omega) ?_
  have hY1 : yW D cA bm g tt (N 0) (N 1) H1 := hY.keep (fun j hj => hk9 _ (hY j hj).lt (hbO j hj))
  rcases hP9 with ⟨hr9, f1, hO1, p1, gs, hv1, hf1, hX1⟩ | ⟨hr9, hc, hX1, hO1⟩
  · rw [hr9]
    refine lv_istore (lv' := [(5, .int (nI 0)), (4, .int (nI (i))), (3, .ref (o)), (2, .ref (bm 0)), (1, .ref (ad 0 0)), (0, .ref (b))]) hx hb dL_law_1024 hl (by decide) rfl (fun ls hl => ?_)
    refine lv_aload_n hx hb dL_law_1026 rfl (lv_at hl 3 rfl) ?_
    refine lv_aload_n hx hb dL_law_1027 rfl (lv_at hl 5 rfl) ?_
    refine lv_iload hx hb dL_law_1028 (lv_at hl 1 rfl) ?_
    refine lv_iconst (v := nI 1) hx hb dL_law_1030 (by decide) ?_
    refine lv_iadd hx hb dL_law_1031 ?_
    refine xtop (show ((nI (i)) + (nI 1)) = nI (i + 1) from nI_add i 1) ?_
    refine va_sld hx hb hXs hbl hbA hS (i := nI (i + 1)) (vp_in_nI (n := i + 1) (by omega) (by omega)) dL_law_1032 ?_
    refine xtop (show (xs (nI (i + 1)).toNatClampNeg) = xs (i + 1) from by rw [nI_clamp (n := i + 1) (by omega)]) ?_
    refine lv_aload_n hx hb dL_law_1033 rfl (lv_at hl 5 rfl) ?_
    refine lv_iload hx hb dL_law_1034 (lv_at hl 1 rfl) ?_
    refine lv_iconst (v := nI 2) hx hb dL_law_1036 (by decide) ?_
    refine lv_iadd hx hb dL_law_1037 ?_
    refine xtop (show ((nI (i)) + (nI 2)) = nI (i + 2) from nI_add i 2) ?_
    refine va_sld hx hb hXs hbl hbA hS (i := nI (i + 2)) (vp_in_nI (n := i + 2) (by omega) (by omega)) dL_law_1038 ?_
    refine xtop (show (xs (nI (i + 2)).toNatClampNeg) = xs (i + 2) from by rw [nI_clamp (n := i + 2) (by omega)]) ?_
    refine xci (va_runV (As := [.int (xs (i + 1)), .int (xs (i + 2))]) (rest := []) ⟨hx, hb, hml, hown, hts⟩ (c_X5_go l D cA e0 (cM bm) H1 bm g tt (N 0) (N 1) hY1 hYA hI (xs (i + 1)) (xs (i + 2))) ⟨(callB_of 2 hts gi_X5_go rfl rfl rfl (hts _ q_ini_X5) (hts _ q_ml_L_126) hd_X5_go ⟨Nat.le_of_ble_eq_true rfl, Nat.le_of_ble_eq_true rfl⟩), hts _ q_im_X5_go, hts _ q_sel_X5_X5_go⟩ (xpVn hE hS hcM (hY1.main) rfl) rfl rfl hl.1 rfl (lv_room (Nat.le_of_ble_eq_true rfl)) dL_law_1039 ⟨(show 24 + 9 * (t + 1) + 0 ≤ 601024 by omega), (show 4951 + 56 * (t + 1) + 0 ≤ 7293033 by omega)⟩) hS hcM (fun r8 H2 locs hQ9 hz8 hk8 hS => ?_)
    refine W.widen (k := 24 + 9 * (t + 1)) (n := 4951 + 56 * (t + 1)) (by omega) (by omega) ?_
    have hX2 := hX1.mod hAx hk8
    have hO2 := hO1.kept (hk8 _ hO1.lt hoM)
    rcases hQ9 with ⟨m1, hr2, g2, hY2, hT2, h21, h20⟩ | ⟨m1, hY2⟩
    · have hgo := (goS_d (wy g) (cl (xs (i + 1))) (vp_updL (vp_updL tt 1 (tt 1 + (rtF g (cl (xs (i + 1)))).toInt64)) 3 (tt 3 + 1)) (cl (xs (i + 2))) (fun t9 h9 => hv1.1 t9 (by omega) (by omega) (by omega)) (bc (cl (xs (i + 1))))).2
      have hcmp : f1 0 = r8.toInt64 := by rw [hf1, hr2, hgo]
      refine lv_istore (lv' := [(6, .int (r8)), (5, .int (nI 0)), (4, .int (nI (i))), (3, .ref (o)), (2, .ref (bm 0)), (1, .ref (ad 0 0)), (0, .ref (b))]) hx hb dL_law_1042 hl (by decide) rfl (fun ls hl => ?_)
      refine lv_aload_n hx hb dL_law_1044 rfl (lv_at hl 4 rfl) ?_
      refine xcRi (va_runV (As := []) (rest := []) ⟨hx, hb, hml, hown, hts⟩ (c_X5_thrown l D cA e0 (lwA s) _ bm _ _ _ _ hY2) ⟨(callB_of 0 hts gi_X5_thrown rfl rfl rfl (hts _ q_ini_X5) (hts _ q_ml_L_72) hd_X5_thrown ⟨Nat.le_of_ble_eq_true rfl, Nat.le_of_ble_eq_true rfl⟩), hts _ q_im_X5_thrown, hts _ q_sel_X5_X5_thrown⟩ (xpV hE hS (hY2.main) rfl) rfl rfl hl.1 rfl (lv_room (Nat.le_of_ble_eq_true rfl)) dL_law_1045 ⟨(show 24 + 9 * (t + 1) + 0 ≤ 601024 by omega), (show 4951 + 56 * (t + 1) + 0 ≤ 7293033 by omega)⟩) ?_
      refine xtop (show _ = nI 0 from h20) ?_
      refine lv_iload hx hb dL_law_1048 (lv_at hl 1 rfl) ?_
      refine lv_icmp_eq (tgt := 1055) hx hb dL_law_1050 (by decide) (fun _ => ?_) (fun hno => absurd (rfl) hno)
      refine lv_iload hx hb dL_law_1055 (lv_at hl 1 rfl) ?_
      refine lv_if_ne (tgt := 1072) hx hb dL_law_1057 (by decide) (fun hno => absurd hno (fun z => z rfl)) (fun _ => ?_)
      refine lv_aload_n hx hb dL_law_1060 rfl (lv_at hl 3 rfl) ?_
      refine lv_iconst (v := nI 0) hx hb dL_law_1061 (by decide) ?_
      refine va_lald hx hb hK (xP1 (hO2)) 0 1 rfl rfl (i := nI 0) (vp_in_nI (n := 0) (by omega) (by omega)) dL_law_1062 ?_
      refine xtopL (show ((fun z => f1 (z)) (nI 0).toNatClampNeg) = f1 (0) from by rw [nI_clamp (n := 0) (by omega)]) ?_
      refine lv_iload hx hb dL_law_1063 (lv_at hl 0 rfl) ?_
      refine lv_i2l (v := r8.toInt64) hx hb dL_law_1065 rfl ?_
      refine W.lcmp hx hb dL_law_1066 ?_
      refine xtop (show lg_cmp (f1 (0)) (r8.toInt64) = nI 0 from by rw [hcmp]; exact lg_self _) ?_
      refine lv_if_eq (tgt := 1072) hx hb dL_law_1067 (by decide) (fun _ => ?_) (fun hno => absurd (rfl) hno)
      refine lv_goto (tgt := 1185) hx hb dL_law_1072 (by decide) ?_
      exact K _ _ _ _ _ _ _ (LI_go hLI p1.1 hv1 hX2 hY2 hT2 h21 ⟨_, hO2⟩) hS (lv_sub hl [2, 3, 4, 5, 6] rfl)
    · exact (m1 p1).elim
  · rw [hr9]
    refine lv_istore (lv' := [(5, .int (nI 1)), (4, .int (nI (i))), (3, .ref (o)), (2, .ref (bm 0)), (1, .ref (ad 0 0)), (0, .ref (b))]) hx hb dL_law_1024 hl (by decide) rfl (fun ls hl => ?_)
    refine lv_aload_n hx hb dL_law_1026 rfl (lv_at hl 3 rfl) ?_
    refine lv_aload_n hx hb dL_law_1027 rfl (lv_at hl 5 rfl) ?_
    refine lv_iload hx hb dL_law_1028 (lv_at hl 1 rfl) ?_
    refine lv_iconst (v := nI 1) hx hb dL_law_1030 (by decide) ?_
    refine lv_iadd hx hb dL_law_1031 ?_
    refine xtop (show ((nI (i)) + (nI 1)) = nI (i + 1) from nI_add i 1) ?_
    refine va_sld hx hb hXs hbl hbA hS (i := nI (i + 1)) (vp_in_nI (n := i + 1) (by omega) (by omega)) dL_law_1032 ?_
    refine xtop (show (xs (nI (i + 1)).toNatClampNeg) = xs (i + 1) from by rw [nI_clamp (n := i + 1) (by omega)]) ?_
    refine lv_aload_n hx hb dL_law_1033 rfl (lv_at hl 5 rfl) ?_
    refine lv_iload hx hb dL_law_1034 (lv_at hl 1 rfl) ?_
    refine lv_iconst (v := nI 2) hx hb dL_law_1036 (by decide) ?_
    refine lv_iadd hx hb dL_law_1037 ?_
    refine xtop (show ((nI (i)) + (nI 2)) = nI (i + 2) from nI_add i 2) ?_
    refine va_sld hx hb hXs hbl hbA hS (i := nI (i + 2)) (vp_in_nI (n := i + 2) (by omega) (by omega)) dL_law_1038 ?_
    refine xtop (show (xs (nI (i + 2)).toNatClampNeg) = xs (i + 2) from by rw [nI_clamp (n := i + 2) (by omega)]) ?_
    refine xci (va_runV (As := [.int (xs (i + 1)), .int (xs (i + 2))]) (rest := []) ⟨hx, hb, hml, hown, hts⟩ (c_X5_go l D cA e0 (cM bm) H1 bm g tt (N 0) (N 1) hY1 hYA hI (xs (i + 1)) (xs (i + 2))) ⟨(callB_of 2 hts gi_X5_go rfl rfl rfl (hts _ q_ini_X5) (hts _ q_ml_L_126) hd_X5_go ⟨Nat.le_of_ble_eq_true rfl, Nat.le_of_ble_eq_true rfl⟩), hts _ q_im_X5_go, hts _ q_sel_X5_X5_go⟩ (xpVn hE hS hcM (hY1.main) rfl) rfl rfl hl.1 rfl (lv_room (Nat.le_of_ble_eq_true rfl)) dL_law_1039 ⟨(show 24 + 9 * (t + 1) + 0 ≤ 601024 by omega), (show 4951 + 56 * (t + 1) + 0 ≤ 7293033 by omega)⟩) hS hcM (fun r8 H2 locs hQ9 hz8 hk8 hS => ?_)
    refine W.widen (k := 24 + 9 * (t + 1)) (n := 4951 + 56 * (t + 1)) (by omega) (by omega) ?_
    have hX2 := hX1.mod hAx hk8
    have hO2 := hO1.kept (hk8 _ hO1.lt hoM)
    rcases hQ9 with ⟨m1, hr2, g2, hY2, hT2, h21, h20⟩ | ⟨m1, hY2⟩
    · exact (hc m1).elim
    · refine lv_istore (lv' := [(6, .int (r8)), (5, .int (nI 1)), (4, .int (nI (i))), (3, .ref (o)), (2, .ref (bm 0)), (1, .ref (ad 0 0)), (0, .ref (b))]) hx hb dL_law_1042 hl (by decide) rfl (fun ls hl => ?_)
      refine lv_aload_n hx hb dL_law_1044 rfl (lv_at hl 4 rfl) ?_
      refine xcRi (va_runV (As := []) (rest := []) ⟨hx, hb, hml, hown, hts⟩ (c_X5_thrown l D cA e0 (lwA s) _ bm _ _ _ _ hY2) ⟨(callB_of 0 hts gi_X5_thrown rfl rfl rfl (hts _ q_ini_X5) (hts _ q_ml_L_72) hd_X5_thrown ⟨Nat.le_of_ble_eq_true rfl, Nat.le_of_ble_eq_true rfl⟩), hts _ q_im_X5_thrown, hts _ q_sel_X5_X5_thrown⟩ (xpV hE hS (hY2.main) rfl) rfl rfl hl.1 rfl (lv_room (Nat.le_of_ble_eq_true rfl)) dL_law_1045 ⟨(show 24 + 9 * (t + 1) + 0 ≤ 601024 by omega), (show 4951 + 56 * (t + 1) + 0 ≤ 7293033 by omega)⟩) ?_
      refine xtop (show _ = nI 1 from thG_20 g 1) ?_
      refine lv_iload hx hb dL_law_1048 (lv_at hl 1 rfl) ?_
      refine lv_icmp_eq (tgt := 1055) hx hb dL_law_1050 (by decide) (fun _ => ?_) (fun hno => absurd (rfl) hno)
      refine lv_iload hx hb dL_law_1055 (lv_at hl 1 rfl) ?_
      refine lv_if_ne (tgt := 1072) hx hb dL_law_1057 (by decide) (fun _ => ?_) (fun hno => absurd hno ((by decide)))
      refine lv_goto (tgt := 1185) hx hb dL_law_1072 (by decide) ?_
      exact K _ _ _ _ _ _ _ (LI_eqY hLI hX2 (fun _ _ _ _ => rfl) hY2 (fun t9 a9 _ => thG_t g 1 a9) ⟨_, hO2⟩) hS (lv_sub hl [2, 3, 4, 5, 6] rfl)
set_option maxHeartbeats 4000000 in
set_option maxRecDepth 100000 in
/-- the law's call 16: total -/
theorem law_c_16 {p : Program} {l : Launch} {e : Env} {s : State} {m : MethodId} {below : List Frame} {meth : Method} {c : Code} {b L : Nat} {xs : Nat → Int32} {D : va_G} {cA : Nat → ClassId} {e0 x0 o : Nat} {bm : Nat → Nat} (C : lwC p l s m meth c b L xs D cA e0 o bm) {i t : Nat} (hi : i + 5 ≤ L) (ht : t < 512) {ad : Nat → Nat → Nat} {g : Nat → Nat → Int32} {tt : Nat → Int64} {N : Nat → Nat} {H : Heap} {locs : List Loc} {ls : Array Slot} (hLI : LI D cA e0 s.heap.size x0 o bm ad g tt N H) (hS : va_S (lwA s) s.heap H locs) (hl : lv_has ls 9 [(4, .int (nI (i))), (3, .ref o), (2, .ref (bm 0)), (1, .ref x0), (0, .ref b)]) (K : lwK p l e s m below meth c b D cA e0 x0 o bm i t) : W p l e room_1 s m #[Value.ref b] below meth c H locs (24 + 9 * t) (4951 + 56 * t) (lw_Z below #[Value.ref b] s) (F0 m 1075 ls []) := by
  obtain ⟨hx, hb, hr, hml, hown, hE, hNc, hXs, hbl, hlocks, hLb, hbm, hinj, ho, hob, hl9⟩ := C
  have hts := hE.1.all #[Value.ref b]
  have hK := hE.2.1
  obtain ⟨hX, hAx, hY, hI, hW, hdf, hN2, hdy, hP, hC, ⟨f0, hO⟩, rfl⟩ := id hLI
  have hn8 := hAx.n8
  have hbA : ¬ lwA s b := Nat.not_le.mpr hbl
  have hF : ∀ q, cF s.heap.size o bm q → cO s.heap.size o bm q := fun q h => Or.inl h
  have hFF : ∀ q, cF s.heap.size o bm q → lwA s q := fun q h => h.1
  have hFo : ∀ q, cO s.heap.size o bm q → lwA s q := fun q h => h.elim (fun z => z.1) (fun z => by rw [z]; exact ho)
  have hoF : ¬ cF s.heap.size o bm o := fun z => z.2.1 rfl
  have hcM : ∀ q, cM bm q → lwA s q := fun q ⟨j, hj, z⟩ => by rw [z]; exact hbm j hj
  have hbO : ∀ j, j < 14 → ¬ cO s.heap.size o bm (bm j) := fun j hj z => z.elim (fun z => z.2.2 j hj rfl) (fun z => hob j hj z.symm)
  have hoM : ¬ cM bm o := fun ⟨j, hj, z⟩ => hob j hj z
  have hYA : yA (cM bm) bm (N 0) (N 1) := ⟨hinj, fun j hj => ⟨j, hj, rfl⟩, hn8, hAx.2.2.2.2.2.2.2.1⟩
  have hAn : ∀ q, H.size ≤ q → cF s.heap.size o bm q := fun q hq => ⟨Nat.le_trans hS.1 hq, fun z => by have := hO.lt; omega, fun j hj z => by have := (hY j hj).lt; omega⟩
  refine lv_aload_n hx hb dL_law_1075 rfl (lv_at hl 3 rfl) ?_
  refine lv_aload_n hx hb dL_law_1076 rfl (lv_at hl 4 rfl) ?_
  refine lv_iload hx hb dL_law_1077 (lv_at hl 0 rfl) ?_
  refine lv_iconst (v := nI 1) hx hb dL_law_1079 (by decide) ?_
  refine lv_iadd hx hb dL_law_1080 ?_
  refine xtop (show ((nI (i)) + (nI 1)) = nI (i + 1) from nI_add i 1) ?_
  refine va_sld hx hb hXs hbl hbA hS (i := nI (i + 1)) (vp_in_nI (n := i + 1) (by omega) (by omega)) dL_law_1081 ?_
  refine xtop (show (xs (nI (i + 1)).toNatClampNeg) = xs (i + 1) from by rw [nI_clamp (n := i + 1) (by omega)]) ?_
  refine lv_aload_n hx hb dL_law_1082 rfl (lv_at hl 1 rfl) ?_
  refine xci (vx_runSW (As := [.ref (ad 0 0), .int (xs (i + 1)), .ref (o)]) (rest := []) ⟨hx, hb, hml, hown, hts⟩ (c_L_total l D cA e0 (cO s.heap.size o bm) H ad g tt N hX (xs (i + 1)) (cF s.heap.size o bm) hF hAx  o f0 hO (Or.inr rfl) hoF hl9) (callSW_of 3 hts gi_L_total rfl rfl rfl (hts _ q_ini_L) (hts _ q_ml_L_127) (hts _ q_st_L_total) hd_L_total ⟨Nat.le_of_ble_eq_true rfl, Nat.le_of_ble_eq_true rfl⟩) (xpSw hE hNc hS hFo) rfl rfl hl.1 rfl (lv_room (Nat.le_of_ble_eq_true rfl)) dL_law_1083 ⟨(show 24 + 9 * t + 1 ≤ 601024 by omega), (show 4951 + 56 * t + 6 ≤ 7293033 by omega)⟩) hS hFo (fun r9 H1 locs hP9 hz9 hk9 hS => ?_)
  refine W.widen (k := 24 + 9 * (t + 1)) (n := 4951 + 56 * (t + 1)) (by omega) (by omega) ?_
  have hY1 : yW D cA bm g tt (N 0) (N 1) H1 := hY.keep (fun j hj => hk9 _ (hY j hj).lt (hbO j hj))
  rcases hP9 with ⟨hr9, f1, hO1, p1, hf1, hX1⟩ | ⟨hr9, hc, hX1, hO1⟩
  · rw [hr9]
    refine lv_istore (lv' := [(5, .int (nI 0)), (4, .int (nI (i))), (3, .ref (o)), (2, .ref (bm 0)), (1, .ref (ad 0 0)), (0, .ref (b))]) hx hb dL_law_1086 hl (by decide) rfl (fun ls hl => ?_)
    refine lv_aload_n hx hb dL_law_1088 rfl (lv_at hl 3 rfl) ?_
    refine lv_aload_n hx hb dL_law_1089 rfl (lv_at hl 5 rfl) ?_
    refine lv_iload hx hb dL_law_1090 (lv_at hl 1 rfl) ?_
    refine lv_iconst (v := nI 1) hx hb dL_law_1092 (by decide) ?_
    refine lv_iadd hx hb dL_law_1093 ?_
    refine xtop (show ((nI (i)) + (nI 1)) = nI (i + 1) from nI_add i 1) ?_
    refine va_sld hx hb hXs hbl hbA hS (i := nI (i + 1)) (vp_in_nI (n := i + 1) (by omega) (by omega)) dL_law_1094 ?_
    refine xtop (show (xs (nI (i + 1)).toNatClampNeg) = xs (i + 1) from by rw [nI_clamp (n := i + 1) (by omega)]) ?_
    refine xcl (va_runV (As := [.int (xs (i + 1))]) (rest := []) ⟨hx, hb, hml, hown, hts⟩ (c_X5_total l D cA e0 (cM bm) H1 bm g tt (N 0) (N 1) hY1 hYA (xs (i + 1))) ⟨(callB_of 1 hts gi_X5_total rfl rfl rfl (hts _ q_ini_X5) (hts _ q_ml_L_129) hd_X5_total ⟨Nat.le_of_ble_eq_true rfl, Nat.le_of_ble_eq_true rfl⟩), hts _ q_im_X5_total, hts _ q_sel_X5_X5_total⟩ (xpVn hE hS hcM (hY1.main) rfl) rfl rfl hl.1 rfl (lv_room (Nat.le_of_ble_eq_true rfl)) dL_law_1095 ⟨(show 24 + 9 * (t + 1) + 0 ≤ 601024 by omega), (show 4951 + 56 * (t + 1) + 0 ≤ 7293033 by omega)⟩) hS hcM (fun r8 H2 locs hQ9 hz8 hk8 hS => ?_)
    refine W.widen (k := 24 + 9 * (t + 1)) (n := 4951 + 56 * (t + 1)) (by omega) (by omega) ?_
    have hX2 := hX1.mod hAx hk8
    have hO2 := hO1.kept (hk8 _ hO1.lt hoM)
    rcases hQ9 with ⟨m1, hr2, hY2⟩ | ⟨m1, hY2⟩
    · have hcmp : f1 0 = r8 := by rw [hf1, hr2]
      refine lv_lstore (lv' := [(6, .long (r8)), (5, .int (nI 0)), (4, .int (nI (i))), (3, .ref (o)), (2, .ref (bm 0)), (1, .ref (ad 0 0)), (0, .ref (b))]) hx hb dL_law_1098 hl (by decide) rfl (fun ls hl => ?_)
      refine lv_aload_n hx hb dL_law_1100 rfl (lv_at hl 4 rfl) ?_
      refine xcRi (va_runV (As := []) (rest := []) ⟨hx, hb, hml, hown, hts⟩ (c_X5_thrown l D cA e0 (lwA s) _ bm _ _ _ _ hY2) ⟨(callB_of 0 hts gi_X5_thrown rfl rfl rfl (hts _ q_ini_X5) (hts _ q_ml_L_72) hd_X5_thrown ⟨Nat.le_of_ble_eq_true rfl, Nat.le_of_ble_eq_true rfl⟩), hts _ q_im_X5_thrown, hts _ q_sel_X5_X5_thrown⟩ (xpV hE hS (hY2.main) rfl) rfl rfl hl.1 rfl (lv_room (Nat.le_of_ble_eq_true rfl)) dL_law_1101 ⟨(show 24 + 9 * (t + 1) + 0 ≤ 601024 by omega), (show 4951 + 56 * (t + 1) + 0 ≤ 7293033 by omega)⟩) ?_
      refine xtop (show _ = nI 0 from thG_20 g 0) ?_
      refine lv_iload hx hb dL_law_1104 (lv_at hl 1 rfl) ?_
      refine lv_icmp_eq (tgt := 1111) hx hb dL_law_1106 (by decide) (fun _ => ?_) (fun hno => absurd (rfl) hno)
      refine lv_iload hx hb dL_law_1111 (lv_at hl 1 rfl) ?_
      refine lv_if_ne (tgt := 1127) hx hb dL_law_1113 (by decide) (fun hno => absurd hno (fun z => z rfl)) (fun _ => ?_)
      refine lv_aload_n hx hb dL_law_1116 rfl (lv_at hl 3 rfl) ?_
      refine lv_iconst (v := nI 0) hx hb dL_law_1117 (by decide) ?_
      refine va_lald hx hb hK (xP1 (hO2)) 0 1 rfl rfl (i := nI 0) (vp_in_nI (n := 0) (by omega) (by omega)) dL_law_1118 ?_
      refine xtopL (show ((fun z => f1 (z)) (nI 0).toNatClampNeg) = f1 (0) from by rw [nI_clamp (n := 0) (by omega)]) ?_
      refine lv_lload hx hb dL_law_1119 (lv_at hl 0 rfl) ?_
      refine W.lcmp hx hb dL_law_1121 ?_
      refine xtop (show lg_cmp (f1 (0)) (r8) = nI 0 from by rw [hcmp]; exact lg_self _) ?_
      refine lv_if_eq (tgt := 1127) hx hb dL_law_1122 (by decide) (fun _ => ?_) (fun hno => absurd (rfl) hno)
      refine lv_goto (tgt := 1185) hx hb dL_law_1127 (by decide) ?_
      exact K _ _ _ _ _ _ _ (LI_eqY hLI hX2 (fun _ _ _ _ => rfl) hY2 (fun t9 a9 _ => thG_t g 0 a9) ⟨_, hO2⟩) hS (lv_sub hl [2, 3, 4, 5, 6] rfl)
    · exact (m1 p1).elim
  · rw [hr9]
    refine lv_istore (lv' := [(5, .int (nI 1)), (4, .int (nI (i))), (3, .ref (o)), (2, .ref (bm 0)), (1, .ref (ad 0 0)), (0, .ref (b))]) hx hb dL_law_1086 hl (by decide) rfl (fun ls hl => ?_)
    refine lv_aload_n hx hb dL_law_1088 rfl (lv_at hl 3 rfl) ?_
    refine lv_aload_n hx hb dL_law_1089 rfl (lv_at hl 5 rfl) ?_
    refine lv_iload hx hb dL_law_1090 (lv_at hl 1 rfl) ?_
    refine lv_iconst (v := nI 1) hx hb dL_law_1092 (by decide) ?_
    refine lv_iadd hx hb dL_law_1093 ?_
    refine xtop (show ((nI (i)) + (nI 1)) = nI (i + 1) from nI_add i 1) ?_
    refine va_sld hx hb hXs hbl hbA hS (i := nI (i + 1)) (vp_in_nI (n := i + 1) (by omega) (by omega)) dL_law_1094 ?_
    refine xtop (show (xs (nI (i + 1)).toNatClampNeg) = xs (i + 1) from by rw [nI_clamp (n := i + 1) (by omega)]) ?_
    refine xcl (va_runV (As := [.int (xs (i + 1))]) (rest := []) ⟨hx, hb, hml, hown, hts⟩ (c_X5_total l D cA e0 (cM bm) H1 bm g tt (N 0) (N 1) hY1 hYA (xs (i + 1))) ⟨(callB_of 1 hts gi_X5_total rfl rfl rfl (hts _ q_ini_X5) (hts _ q_ml_L_129) hd_X5_total ⟨Nat.le_of_ble_eq_true rfl, Nat.le_of_ble_eq_true rfl⟩), hts _ q_im_X5_total, hts _ q_sel_X5_X5_total⟩ (xpVn hE hS hcM (hY1.main) rfl) rfl rfl hl.1 rfl (lv_room (Nat.le_of_ble_eq_true rfl)) dL_law_1095 ⟨(show 24 + 9 * (t + 1) + 0 ≤ 601024 by omega), (show 4951 + 56 * (t + 1) + 0 ≤ 7293033 by omega)⟩) hS hcM (fun r8 H2 locs hQ9 hz8 hk8 hS => ?_)
    refine W.widen (k := 24 + 9 * (t + 1)) (n := 4951 + 56 * (t + 1)) (by omega) (by omega) ?_
    have hX2 := hX1.mod hAx hk8
    have hO2 := hO1.kept (hk8 _ hO1.lt hoM)
    rcases hQ9 with ⟨m1, hr2, hY2⟩ | ⟨m1, hY2⟩
    · exact (hc m1).elim
    · refine lv_lstore (lv' := [(6, .long (r8)), (5, .int (nI 1)), (4, .int (nI (i))), (3, .ref (o)), (2, .ref (bm 0)), (1, .ref (ad 0 0)), (0, .ref (b))]) hx hb dL_law_1098 hl (by decide) rfl (fun ls hl => ?_)
      refine lv_aload_n hx hb dL_law_1100 rfl (lv_at hl 4 rfl) ?_
      refine xcRi (va_runV (As := []) (rest := []) ⟨hx, hb, hml, hown, hts⟩ (c_X5_thrown l D cA e0 (lwA s) _ bm _ _ _ _ hY2) ⟨(callB_of 0 hts gi_X5_thrown rfl rfl rfl (hts _ q_ini_X5) (hts _ q_ml_L_72) hd_X5_thrown ⟨Nat.le_of_ble_eq_true rfl, Nat.le_of_ble_eq_true rfl⟩), hts _ q_im_X5_thrown, hts _ q_sel_X5_X5_thrown⟩ (xpV hE hS (hY2.main) rfl) rfl rfl hl.1 rfl (lv_room (Nat.le_of_ble_eq_true rfl)) dL_law_1101 ⟨(show 24 + 9 * (t + 1) + 0 ≤ 601024 by omega), (show 4951 + 56 * (t + 1) + 0 ≤ 7293033 by omega)⟩) ?_
      refine xtop (show _ = nI 1 from thG_20 g 1) ?_
      refine lv_iload hx hb dL_law_1104 (lv_at hl 1 rfl) ?_
      refine lv_icmp_eq (tgt := 1111) hx hb dL_law_1106 (by decide) (fun _ => ?_) (fun hno => absurd (rfl) hno)
      refine lv_iload hx hb dL_law_1111 (lv_at hl 1 rfl) ?_
      refine lv_if_ne (tgt := 1127) hx hb dL_law_1113 (by decide) (fun _ => ?_) (fun hno => absurd hno ((by decide)))
      refine lv_goto (tgt := 1185) hx hb dL_law_1127 (by decide) ?_
      exact K _ _ _ _ _ _ _ (LI_eqY hLI hX2 (fun _ _ _ _ => rfl) hY2 (fun t9 a9 _ => thG_t g 1 a9) ⟨_, hO2⟩) hS (lv_sub hl [2, 3, 4, 5, 6] rfl)
set_option maxHeartbeats 4000000 in
set_option maxRecDepth 100000 in
/-- the law's call 17: filled -/
theorem law_c_17 {p : Program} {l : Launch} {e : Env} {s : State} {m : MethodId} {below : List Frame} {meth : Method} {c : Code} {b L : Nat} {xs : Nat → Int32} {D : va_G} {cA : Nat → ClassId} {e0 x0 o : Nat} {bm : Nat → Nat} (C : lwC p l s m meth c b L xs D cA e0 o bm) {i t : Nat} (hi : i + 5 ≤ L) (ht : t < 512) {ad : Nat → Nat → Nat} {g : Nat → Nat → Int32} {tt : Nat → Int64} {N : Nat → Nat} {H : Heap} {locs : List Loc} {ls : Array Slot} (hLI : LI D cA e0 s.heap.size x0 o bm ad g tt N H) (hS : va_S (lwA s) s.heap H locs) (hl : lv_has ls 9 [(4, .int (nI (i))), (3, .ref o), (2, .ref (bm 0)), (1, .ref x0), (0, .ref b)]) (K : lwK p l e s m below meth c b D cA e0 x0 o bm i t) : W p l e room_1 s m #[Value.ref b] below meth c H locs (24 + 9 * t) (4951 + 56 * t) (lw_Z below #[Value.ref b] s) (F0 m 1130 ls []) := by
  obtain ⟨hx, hb, hr, hml, hown, hE, hNc, hXs, hbl, hlocks, hLb, hbm, hinj, ho, hob, hl9⟩ := C
  have hts := hE.1.all #[Value.ref b]
  have hK := hE.2.1
  obtain ⟨hX, hAx, hY, hI, hW, hdf, hN2, hdy, hP, hC, ⟨f0, hO⟩, rfl⟩ := id hLI
  have hn8 := hAx.n8
  have hbA : ¬ lwA s b := Nat.not_le.mpr hbl
  have hF : ∀ q, cF s.heap.size o bm q → cO s.heap.size o bm q := fun q h => Or.inl h
  have hFF : ∀ q, cF s.heap.size o bm q → lwA s q := fun q h => h.1
  have hFo : ∀ q, cO s.heap.size o bm q → lwA s q := fun q h => h.elim (fun z => z.1) (fun z => by rw [z]; exact ho)
  have hoF : ¬ cF s.heap.size o bm o := fun z => z.2.1 rfl
  have hcM : ∀ q, cM bm q → lwA s q := fun q ⟨j, hj, z⟩ => by rw [z]; exact hbm j hj
  have hbO : ∀ j, j < 14 → ¬ cO s.heap.size o bm (bm j) := fun j hj z => z.elim (fun z => z.2.2 j hj rfl) (fun z => hob j hj z.symm)
  have hoM : ¬ cM bm o := fun ⟨j, hj, z⟩ => hob j hj z
  have hYA : yA (cM bm) bm (N 0) (N 1) := ⟨hinj, fun j hj => ⟨j, hj, rfl⟩, hn8, hAx.2.2.2.2.2.2.2.1⟩
  have hAn : ∀ q, H.size ≤ q → cF s.heap.size o bm q := fun q hq => ⟨Nat.le_trans hS.1 hq, fun z => by have := hO.lt; omega, fun j hj z => by have := (hY j hj).lt; omega⟩
  refine lv_aload_n hx hb dL_law_1130 rfl (lv_at hl 3 rfl) ?_
  refine xcRd (va_runV (As := []) (rest := []) ⟨hx, hb, hml, hown, hts⟩ (c_X4_filled l D cA e0 (cF s.heap.size o bm) H ad g tt N hX hAx) ⟨(callB_of 0 hts gi_X4_filled rfl rfl rfl (hts _ q_ini_X4) (hts _ q_ml_L_130) hd_X4_filled ⟨Nat.le_of_ble_eq_true rfl, Nat.le_of_ble_eq_true rfl⟩), hts _ q_im_X4_filled, hts _ q_sel_X4_X4_filled⟩ (xpVn hE hS hFF (hX.main) rfl) rfl rfl hl.1 rfl (lv_room (Nat.le_of_ble_eq_true rfl)) dL_law_1131 ⟨(show 24 + 9 * t + 0 ≤ 601024 by omega), (show 4951 + 56 * t + 0 ≤ 7293033 by omega)⟩) ?_
  refine W.widen (k := 24 + 9 * (t + 1)) (n := 4951 + 56 * (t + 1)) (by omega) (by omega) ?_
  have hX1 := hX
  have hY1 := hY
  have hO1 := hO
  refine lv_dstore (lv' := [(5, .double (filF g (N 0))), (4, .int (nI (i))), (3, .ref (o)), (2, .ref (bm 0)), (1, .ref (ad 0 0)), (0, .ref (b))]) hx hb dL_law_1134 hl (by decide) rfl (fun ls hl => ?_)
  refine lv_aload_n hx hb dL_law_1136 rfl (lv_at hl 3 rfl) ?_
  refine xcd (va_runV (As := []) (rest := []) ⟨hx, hb, hml, hown, hts⟩ (c_X5_filled l D cA e0 (cM bm) H bm g tt (N 0) (N 1) hY1 hYA ) ⟨(callB_of 0 hts gi_X5_filled rfl rfl rfl (hts _ q_ini_X5) (hts _ q_ml_L_134) hd_X5_filled ⟨Nat.le_of_ble_eq_true rfl, Nat.le_of_ble_eq_true rfl⟩), hts _ q_im_X5_filled, hts _ q_sel_X5_X5_filled⟩ (xpVn hE hS hcM (hY1.main) rfl) rfl rfl hl.1 rfl (lv_room (Nat.le_of_ble_eq_true rfl)) dL_law_1137 ⟨(show 24 + 9 * (t + 1) + 0 ≤ 601024 by omega), (show 4951 + 56 * (t + 1) + 0 ≤ 7293033 by omega)⟩) hS hcM (fun r8 H2 locs hQ9 hz8 hk8 hS => ?_)
  refine W.widen (k := 24 + 9 * (t + 1)) (n := 4951 + 56 * (t + 1)) (by omega) (by omega) ?_
  have hX2 := hX1.mod hAx hk8
  have hO2 := hO1.kept (hk8 _ hO1.lt hoM)
  obtain ⟨hr2, hY2⟩ := hQ9
  rw [hr2]
  refine lv_dstore (lv' := [(7, .double (filF g (N 0))), (5, .double (filF g (N 0))), (4, .int (nI (i))), (3, .ref (o)), (2, .ref (bm 0)), (1, .ref (ad 0 0)), (0, .ref (b))]) hx hb dL_law_1140 hl (by decide) rfl (fun ls hl => ?_)
  refine lv_dload hx hb dL_law_1142 (lv_at hl 1 rfl) ?_
  refine lv_dload hx hb dL_law_1144 (lv_at hl 0 rfl) ?_
  refine lv_dcmp hx hb dL_law_1146 ?_
  obtain ⟨cv, hcv⟩ : ∃ z, Op.cmpValue (FP.dcmp (filF g (N 0)) (filF g (N 0))) CmpOp.l = z := ⟨_, rfl⟩
  refine xtop hcv ?_
  refine lv_if_eq (tgt := 1168) hx hb dL_law_1147 (by decide) (fun c1147 => ?_) (fun c1147 => ?_)
  · refine lv_goto (tgt := 1185) hx hb dL_law_1168 (by decide) ?_
    exact K _ _ _ _ _ _ _ (LI_eqY hLI hX2 (fun _ _ _ _ => rfl) hY2 (fun t9 a9 _ => thG_t g 0 a9) ⟨_, hO2⟩) hS (lv_sub hl [2, 3, 4, 5, 6] rfl)
  · refine lv_dload hx hb dL_law_1150 (lv_at hl 1 rfl) ?_
    refine lv_dload hx hb dL_law_1152 (lv_at hl 1 rfl) ?_
    refine lv_dcmp hx hb dL_law_1154 ?_
    refine xtop hcv ?_
    refine lv_if_eq (tgt := 1166) hx hb dL_law_1155 (by decide) (fun hno => absurd hno (c1147)) (fun _ => ?_)
    refine lv_dload hx hb dL_law_1158 (lv_at hl 0 rfl) ?_
    refine lv_dload hx hb dL_law_1160 (lv_at hl 0 rfl) ?_
    refine lv_dcmp hx hb dL_law_1162 ?_
    refine xtop hcv ?_
    refine lv_if_ne (tgt := 1168) hx hb dL_law_1163 (by decide) (fun _ => ?_) (fun hno => absurd hno (c1147))
    refine lv_goto (tgt := 1185) hx hb dL_law_1168 (by decide) ?_
    exact K _ _ _ _ _ _ _ (LI_eqY hLI hX2 (fun _ _ _ _ => rfl) hY2 (fun t9 a9 _ => thG_t g 0 a9) ⟨_, hO2⟩) hS (lv_sub hl [2, 3, 4, 5, 6] rfl)
set_option maxHeartbeats 4000000 in
set_option maxRecDepth 100000 in
/-- the law's call 18: digest -/
theorem law_c_18 {p : Program} {l : Launch} {e : Env} {s : State} {m : MethodId} {below : List Frame} {meth : Method} {c : Code} {b L : Nat} {xs : Nat → Int32} {D : va_G} {cA : Nat → ClassId} {e0 x0 o : Nat} {bm : Nat → Nat} (C : lwC p l s m meth c b L xs D cA e0 o bm) {i t : Nat} (hi : i + 5 ≤ L) (ht : t < 512) {ad : Nat → Nat → Nat} {g : Nat → Nat → Int32} {tt : Nat → Int64} {N : Nat → Nat} {H : Heap} {locs : List Loc} {ls : Array Slot} (hLI : LI D cA e0 s.heap.size x0 o bm ad g tt N H) (hS : va_S (lwA s) s.heap H locs) (hl : lv_has ls 9 [(4, .int (nI (i))), (3, .ref o), (2, .ref (bm 0)), (1, .ref x0), (0, .ref b)]) (K : lwK p l e s m below meth c b D cA e0 x0 o bm i t) : W p l e room_1 s m #[Value.ref b] below meth c H locs (24 + 9 * t) (4951 + 56 * t) (lw_Z below #[Value.ref b] s) (F0 m 1171 ls []) := by
  obtain ⟨hx, hb, hr, hml, hown, hE, hNc, hXs, hbl, hlocks, hLb, hbm, hinj, ho, hob, hl9⟩ := C
  have hts := hE.1.all #[Value.ref b]
  have hK := hE.2.1
  obtain ⟨hX, hAx, hY, hI, hW, hdf, hN2, hdy, hP, hC, ⟨f0, hO⟩, rfl⟩ := id hLI
  have hn8 := hAx.n8
  have hbA : ¬ lwA s b := Nat.not_le.mpr hbl
  have hF : ∀ q, cF s.heap.size o bm q → cO s.heap.size o bm q := fun q h => Or.inl h
  have hFF : ∀ q, cF s.heap.size o bm q → lwA s q := fun q h => h.1
  have hFo : ∀ q, cO s.heap.size o bm q → lwA s q := fun q h => h.elim (fun z => z.1) (fun z => by rw [z]; exact ho)
  have hoF : ¬ cF s.heap.size o bm o := fun z => z.2.1 rfl
  have hcM : ∀ q, cM bm q → lwA s q := fun q ⟨j, hj, z⟩ => by rw [z]; exact hbm j hj
  have hbO : ∀ j, j < 14 → ¬ cO s.heap.size o bm (bm j) := fun j hj z => z.elim (fun z => z.2.2 j hj rfl) (fun z => hob j hj z.symm)
  have hoM : ¬ cM bm o := fun ⟨j, hj, z⟩ => hob j hj z
  have hYA : yA (cM bm) bm (N 0) (N 1) := ⟨hinj, fun j hj => ⟨j, hj, rfl⟩, hn8, hAx.2.2.2.2.2.2.2.1⟩
  have hAn : ∀ q, H.size ≤ q → cF s.heap.size o bm q := fun q hq => ⟨Nat.le_trans hS.1 hq, fun z => by have := hO.lt; omega, fun j hj z => by have := (hY j hj).lt; omega⟩
  refine lv_aload_n hx hb dL_law_1171 rfl (lv_at hl 3 rfl) ?_
  refine xcRl (va_runV (As := []) (rest := []) ⟨hx, hb, hml, hown, hts⟩ (c_X4_digest l D cA e0 (cF s.heap.size o bm) H ad g tt N hX hAx) ⟨(callB_of 0 hts gi_X4_digest rfl rfl rfl (hts _ q_ini_X4) (hts _ q_ml_L_135) hd_X4_digest ⟨Nat.le_of_ble_eq_true rfl, Nat.le_of_ble_eq_true rfl⟩), hts _ q_im_X4_digest, hts _ q_sel_X4_X4_digest⟩ (xpVn hE hS hFF (hX.main) rfl) rfl rfl hl.1 rfl (lv_room (Nat.le_of_ble_eq_true rfl)) dL_law_1172 ⟨(show 24 + 9 * t + 0 ≤ 601024 by omega), (show 4951 + 56 * t + 0 ≤ 7293033 by omega)⟩) ?_
  refine W.widen (k := 24 + 9 * (t + 1)) (n := 4951 + 56 * (t + 1)) (by omega) (by omega) ?_
  have hX1 := hX
  have hY1 := hY
  have hO1 := hO
  refine lv_aload_n hx hb dL_law_1175 rfl (lv_at hl 2 rfl) ?_
  refine xcl (va_runV (As := []) (rest := [.long (digF g tt (N 0) (N 1))]) ⟨hx, hb, hml, hown, hts⟩ (c_X5_digest l D cA e0 (cM bm) H bm g tt (N 0) (N 1) hY1 hYA ) ⟨(callB_of 0 hts gi_X5_digest rfl rfl rfl (hts _ q_ini_X5) (hts _ q_ml_L_139) hd_X5_digest ⟨Nat.le_of_ble_eq_true rfl, Nat.le_of_ble_eq_true rfl⟩), hts _ q_im_X5_digest, hts _ q_sel_X5_X5_digest⟩ (xpVn hE hS hcM (hY1.main) rfl) rfl rfl hl.1 rfl (lv_room (Nat.le_of_ble_eq_true rfl)) dL_law_1176 ⟨(show 24 + 9 * (t + 1) + 0 ≤ 601024 by omega), (show 4951 + 56 * (t + 1) + 0 ≤ 7293033 by omega)⟩) hS hcM (fun r8 H2 locs hQ9 hz8 hk8 hS => ?_)
  refine W.widen (k := 24 + 9 * (t + 1)) (n := 4951 + 56 * (t + 1)) (by omega) (by omega) ?_
  have hX2 := hX1.mod hAx hk8
  have hO2 := hO1.kept (hk8 _ hO1.lt hoM)
  obtain ⟨hr2, hY2⟩ := hQ9
  have hcmp : digF g tt (N 0) (N 1) = r8 := hr2.symm
  refine W.lcmp hx hb dL_law_1179 ?_
  refine xtop (show lg_cmp (digF g tt (N 0) (N 1)) (r8) = nI 0 from by rw [hcmp]; exact lg_self _) ?_
  refine lv_if_eq (tgt := 1185) hx hb dL_law_1180 (by decide) (fun _ => ?_) (fun hno => absurd (rfl) hno)
  exact K _ _ _ _ _ _ _ (LI_eqY hLI hX2 (fun _ _ _ _ => rfl) hY2 (fun t9 a9 _ => thG_t g 0 a9) ⟨_, hO2⟩) hS (lv_sub hl [0, 1, 2, 3, 4] rfl)
