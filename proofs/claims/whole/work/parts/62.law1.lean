/-! The law's calls 0 to 3 (by p62.py) -/
set_option maxHeartbeats 4000000 in
set_option maxRecDepth 100000 in
/-- the law's call 0: addMachine -/
theorem law_c_0 {p : Program} {l : Launch} {e : Env} {s : State} {m : MethodId} {below : List Frame} {meth : Method} {c : Code} {b L : Nat} {xs : Nat → Int32} {D : va_G} {cA : Nat → ClassId} {e0 x0 o : Nat} {bm : Nat → Nat} (C : lwC p l s m meth c b L xs D cA e0 o bm) {i t : Nat} (hi : i + 5 ≤ L) (ht : t < 512) {ad : Nat → Nat → Nat} {g : Nat → Nat → Int32} {tt : Nat → Int64} {N : Nat → Nat} {H : Heap} {locs : List Loc} {ls : Array Slot} (hLI : LI D cA e0 s.heap.size x0 o bm ad g tt N H) (hS : va_S (lwA s) s.heap H locs) (hl : lv_has ls 9 [(4, .int (nI (i))), (3, .ref o), (2, .ref (bm 0)), (1, .ref x0), (0, .ref b)]) (K : lwK p l e s m below meth c b D cA e0 x0 o bm i t) : W p l e room_1 s m #[Value.ref b] below meth c H locs (24 + 9 * t) (4951 + 56 * t) (lw_Z below #[Value.ref b] s) (F0 m 128 ls []) := by
  obtain ⟨hx, hb, hr, hml, hown, hE, hNc, hXs, hbl, hlocks, hLb, hbm, hinj, ho, hob, hl9⟩ := C
  have hts := hE.1.all #[Value.ref b]
  have hK := hE.2.1
  obtain ⟨hX, hAx, hY, hI, hW, hdf, hN2, hdy, hP, hC, ⟨f0, hO⟩, rfl⟩ := id hLI
  have hn8 := hAx.n8
  have hbA : ¬ lwA s b := Nat.not_le.mpr hbl
  have hF : ∀ q, cF s.heap.size o bm q → cO s.heap.size o bm q := fun q h => Or.inl h
  have hFF : ∀ q, cF s.heap.size o bm q → lwA s q := fun q h => h.1
  have hFo : ∀ q, cO s.heap.size o bm q → lwA s q := fun q h => h.elim (fun z => z.1) (fun z => by rw [z]; exact ho)
  have hoF : ¬ cF s.heap.size o bm o := fun z => z.2.1 rfl
  have hcM : ∀ q, cM bm q → lwA s q := fun q ⟨j, hj, z⟩ => by rw [z]; exact hbm j hj
  have hbO : ∀ j, j < 14 → ¬ cO s.heap.size o bm (bm j) := fun j hj z => z.elim (fun z => z.2.2 j hj rfl) (fun z => hob j hj z.symm)
  have hoM : ¬ cM bm o := fun ⟨j, hj, z⟩ => hob j hj z
  have hYA : yA (cM bm) bm (N 0) (N 1) := ⟨hinj, fun j hj => ⟨j, hj, rfl⟩, hn8, hAx.2.2.2.2.2.2.2.1⟩
  have hAn : ∀ q, H.size ≤ q → cF s.heap.size o bm q := fun q hq => ⟨Nat.le_trans hS.1 hq, fun z => by have := hO.lt; omega, fun j hj z => by have := (hY j hj).lt; omega⟩
  refine lv_aload_n hx hb dL_law_128 rfl (lv_at hl 3 rfl) ?_
  refine lv_aload_n hx hb dL_law_129 rfl (lv_at hl 4 rfl) ?_
  refine lv_iload hx hb dL_law_130 (lv_at hl 0 rfl) ?_
  refine lv_iconst (v := nI 1) hx hb dL_law_132 (by decide) ?_
  refine lv_iadd hx hb dL_law_133 ?_
  refine xtop (show ((nI (i)) + (nI 1)) = nI (i + 1) from nI_add i 1) ?_
  refine va_sld hx hb hXs hbl hbA hS (i := nI (i + 1)) (vp_in_nI (n := i + 1) (by omega) (by omega)) dL_law_134 ?_
  refine xtop (show (xs (nI (i + 1)).toNatClampNeg) = xs (i + 1) from by rw [nI_clamp (n := i + 1) (by omega)]) ?_
  refine lv_aload_n hx hb dL_law_135 rfl (lv_at hl 1 rfl) ?_
  refine xci (vx_runSW (As := [.ref (ad 0 0), .int (xs (i + 1)), .ref (o)]) (rest := []) ⟨hx, hb, hml, hown, hts⟩ (c_L_addMachine l D cA e0 (cO s.heap.size o bm) H ad g tt N hX (xs (i + 1)) (cF s.heap.size o bm) hF hAx hAn hdf (hC.ok hn8) hN2 o f0 hO (Or.inr rfl) hoF hl9) (callSW_of 3 hts gi_L_addMachine rfl rfl rfl (hts _ q_ini_L) (hts _ q_ml_L_66) (hts _ q_st_L_addMachine) hd_L_addMachine ⟨Nat.le_of_ble_eq_true rfl, Nat.le_of_ble_eq_true rfl⟩) (xpSw hE hNc hS hFo) rfl rfl hl.1 rfl (lv_room (Nat.le_of_ble_eq_true rfl)) dL_law_136 ⟨(show 24 + 9 * t + 9 ≤ 601024 by omega), (show 4951 + 56 * t + 56 ≤ 7293033 by omega)⟩) hS hFo (fun r9 H1 locs hP9 hz9 hk9 hS => ?_)
  refine W.widen (k := 24 + 9 * (t + 1)) (n := 4951 + 56 * (t + 1)) (by omega) (by omega) ?_
  have hY1 : yW D cA bm g tt (N 0) (N 1) H1 := hY.keep (fun j hj => hk9 _ (hY j hj).lt (hbO j hj))
  rcases hP9 with ⟨hr9, f1, hO1, p1, p2, hf1, ad2, g1, hX1, hA1, hx2, hg1, hw1⟩ | ⟨hr9, hc, hX1, hO1⟩ | ⟨hr9, hc, hX1, hO1⟩
  · rw [hr9]
    refine lv_istore (lv' := [(5, .int (nI 0)), (4, .int (nI (i))), (3, .ref (o)), (2, .ref (bm 0)), (1, .ref (ad 0 0)), (0, .ref (b))]) hx hb dL_law_139 hl (by decide) rfl (fun ls hl => ?_)
    refine lv_aload_n hx hb dL_law_141 rfl (lv_at hl 3 rfl) ?_
    refine lv_aload_n hx hb dL_law_142 rfl (lv_at hl 5 rfl) ?_
    refine lv_iload hx hb dL_law_143 (lv_at hl 1 rfl) ?_
    refine lv_iconst (v := nI 1) hx hb dL_law_145 (by decide) ?_
    refine lv_iadd hx hb dL_law_146 ?_
    refine xtop (show ((nI (i)) + (nI 1)) = nI (i + 1) from nI_add i 1) ?_
    refine va_sld hx hb hXs hbl hbA hS (i := nI (i + 1)) (vp_in_nI (n := i + 1) (by omega) (by omega)) dL_law_147 ?_
    refine xtop (show (xs (nI (i + 1)).toNatClampNeg) = xs (i + 1) from by rw [nI_clamp (n := i + 1) (by omega)]) ?_
    refine xci (va_runV (As := [.int (xs (i + 1))]) (rest := []) ⟨hx, hb, hml, hown, hts⟩ (c_X5_addMachine l D cA e0 (cM bm) H1 bm g tt (N 0) (N 1) hY1 hYA (xs (i + 1))) ⟨(callB_of 1 hts gi_X5_addMachine rfl rfl rfl (hts _ q_ini_X5) (hts _ q_ml_L_71) hd_X5_addMachine ⟨Nat.le_of_ble_eq_true rfl, Nat.le_of_ble_eq_true rfl⟩), hts _ q_im_X5_addMachine, hts _ q_sel_X5_X5_addMachine⟩ (xpVn hE hS hcM (hY1.main) rfl) rfl rfl hl.1 rfl (lv_room (Nat.le_of_ble_eq_true rfl)) dL_law_148 ⟨(show 24 + 9 * (t + 1) + 0 ≤ 601024 by omega), (show 4951 + 56 * (t + 1) + 0 ≤ 7293033 by omega)⟩) hS hcM (fun r8 H2 locs hQ9 hz8 hk8 hS => ?_)
    refine W.widen (k := 24 + 9 * (t + 1)) (n := 4951 + 56 * (t + 1)) (by omega) (by omega) ?_
    have hX2 := hX1.mod hA1 hk8
    have hO2 := hO1.kept (hk8 _ hO1.lt hoM)
    rcases hQ9 with ⟨m1, m2, hr2, g2, hY2, he2⟩ | ⟨m1, hY2⟩ | ⟨m1, m2, hY2⟩
    · have hcmp : f1 0 = r8.toInt64 := by rw [hf1, hr2]
      refine lv_istore (lv' := [(6, .int (r8)), (5, .int (nI 0)), (4, .int (nI (i))), (3, .ref (o)), (2, .ref (bm 0)), (1, .ref (ad 0 0)), (0, .ref (b))]) hx hb dL_law_151 hl (by decide) rfl (fun ls hl => ?_)
      refine lv_aload_n hx hb dL_law_153 rfl (lv_at hl 4 rfl) ?_
      refine xcRi (va_runV (As := []) (rest := []) ⟨hx, hb, hml, hown, hts⟩ (c_X5_thrown l D cA e0 (lwA s) _ bm _ _ _ _ hY2) ⟨(callB_of 0 hts gi_X5_thrown rfl rfl rfl (hts _ q_ini_X5) (hts _ q_ml_L_72) hd_X5_thrown ⟨Nat.le_of_ble_eq_true rfl, Nat.le_of_ble_eq_true rfl⟩), hts _ q_im_X5_thrown, hts _ q_sel_X5_X5_thrown⟩ (xpV hE hS (hY2.main) rfl) rfl rfl hl.1 rfl (lv_room (Nat.le_of_ble_eq_true rfl)) dL_law_154 ⟨(show 24 + 9 * (t + 1) + 0 ≤ 601024 by omega), (show 4951 + 56 * (t + 1) + 0 ≤ 7293033 by omega)⟩) ?_
      refine xtop (show _ = nI 0 from he2.2) ?_
      refine lv_iload hx hb dL_law_157 (lv_at hl 1 rfl) ?_
      refine lv_icmp_eq (tgt := 164) hx hb dL_law_159 (by decide) (fun _ => ?_) (fun hno => absurd (rfl) hno)
      refine lv_iload hx hb dL_law_164 (lv_at hl 1 rfl) ?_
      refine lv_if_ne (tgt := 181) hx hb dL_law_166 (by decide) (fun hno => absurd hno (fun z => z rfl)) (fun _ => ?_)
      refine lv_aload_n hx hb dL_law_169 rfl (lv_at hl 3 rfl) ?_
      refine lv_iconst (v := nI 0) hx hb dL_law_170 (by decide) ?_
      refine va_lald hx hb hK (xP1 (hO2)) 0 1 rfl rfl (i := nI 0) (vp_in_nI (n := 0) (by omega) (by omega)) dL_law_171 ?_
      refine xtopL (show ((fun z => f1 (z)) (nI 0).toNatClampNeg) = f1 (0) from by rw [nI_clamp (n := 0) (by omega)]) ?_
      refine lv_iload hx hb dL_law_172 (lv_at hl 0 rfl) ?_
      refine lv_i2l (v := r8.toInt64) hx hb dL_law_174 rfl ?_
      refine W.lcmp hx hb dL_law_175 ?_
      refine xtop (show lg_cmp (f1 (0)) (r8.toInt64) = nI 0 from by rw [hcmp]; exact lg_self _) ?_
      refine lv_if_eq (tgt := 181) hx hb dL_law_176 (by decide) (fun _ => ?_) (fun hno => absurd (rfl) hno)
      refine lv_goto (tgt := 1185) hx hb dL_law_181 (by decide) ?_
      exact K _ _ _ _ _ _ _ (LI_am hLI hX2 hA1 hx2 hg1 hw1 hY2 he2 ⟨_, hO2⟩) hS (lv_sub hl [2, 3, 4, 5, 6] rfl)
    · exact (m1 p1).elim
    · exact (m2 p2).elim
  · rw [hr9]
    refine lv_istore (lv' := [(5, .int (nI 1)), (4, .int (nI (i))), (3, .ref (o)), (2, .ref (bm 0)), (1, .ref (ad 0 0)), (0, .ref (b))]) hx hb dL_law_139 hl (by decide) rfl (fun ls hl => ?_)
    refine lv_aload_n hx hb dL_law_141 rfl (lv_at hl 3 rfl) ?_
    refine lv_aload_n hx hb dL_law_142 rfl (lv_at hl 5 rfl) ?_
    refine lv_iload hx hb dL_law_143 (lv_at hl 1 rfl) ?_
    refine lv_iconst (v := nI 1) hx hb dL_law_145 (by decide) ?_
    refine lv_iadd hx hb dL_law_146 ?_
    refine xtop (show ((nI (i)) + (nI 1)) = nI (i + 1) from nI_add i 1) ?_
    refine va_sld hx hb hXs hbl hbA hS (i := nI (i + 1)) (vp_in_nI (n := i + 1) (by omega) (by omega)) dL_law_147 ?_
    refine xtop (show (xs (nI (i + 1)).toNatClampNeg) = xs (i + 1) from by rw [nI_clamp (n := i + 1) (by omega)]) ?_
    refine xci (va_runV (As := [.int (xs (i + 1))]) (rest := []) ⟨hx, hb, hml, hown, hts⟩ (c_X5_addMachine l D cA e0 (cM bm) H1 bm g tt (N 0) (N 1) hY1 hYA (xs (i + 1))) ⟨(callB_of 1 hts gi_X5_addMachine rfl rfl rfl (hts _ q_ini_X5) (hts _ q_ml_L_71) hd_X5_addMachine ⟨Nat.le_of_ble_eq_true rfl, Nat.le_of_ble_eq_true rfl⟩), hts _ q_im_X5_addMachine, hts _ q_sel_X5_X5_addMachine⟩ (xpVn hE hS hcM (hY1.main) rfl) rfl rfl hl.1 rfl (lv_room (Nat.le_of_ble_eq_true rfl)) dL_law_148 ⟨(show 24 + 9 * (t + 1) + 0 ≤ 601024 by omega), (show 4951 + 56 * (t + 1) + 0 ≤ 7293033 by omega)⟩) hS hcM (fun r8 H2 locs hQ9 hz8 hk8 hS => ?_)
    refine W.widen (k := 24 + 9 * (t + 1)) (n := 4951 + 56 * (t + 1)) (by omega) (by omega) ?_
    have hX2 := hX1.mod hAx hk8
    have hO2 := hO1.kept (hk8 _ hO1.lt hoM)
    rcases hQ9 with ⟨m1, m2, hr2, g2, hY2, he2⟩ | ⟨m1, hY2⟩ | ⟨m1, m2, hY2⟩
    · exact (hc m1).elim
    · refine lv_istore (lv' := [(6, .int (r8)), (5, .int (nI 1)), (4, .int (nI (i))), (3, .ref (o)), (2, .ref (bm 0)), (1, .ref (ad 0 0)), (0, .ref (b))]) hx hb dL_law_151 hl (by decide) rfl (fun ls hl => ?_)
      refine lv_aload_n hx hb dL_law_153 rfl (lv_at hl 4 rfl) ?_
      refine xcRi (va_runV (As := []) (rest := []) ⟨hx, hb, hml, hown, hts⟩ (c_X5_thrown l D cA e0 (lwA s) _ bm _ _ _ _ hY2) ⟨(callB_of 0 hts gi_X5_thrown rfl rfl rfl (hts _ q_ini_X5) (hts _ q_ml_L_72) hd_X5_thrown ⟨Nat.le_of_ble_eq_true rfl, Nat.le_of_ble_eq_true rfl⟩), hts _ q_im_X5_thrown, hts _ q_sel_X5_X5_thrown⟩ (xpV hE hS (hY2.main) rfl) rfl rfl hl.1 rfl (lv_room (Nat.le_of_ble_eq_true rfl)) dL_law_154 ⟨(show 24 + 9 * (t + 1) + 0 ≤ 601024 by omega), (show 4951 + 56 * (t + 1) + 0 ≤ 7293033 by omega)⟩) ?_
      refine xtop (show _ = nI 1 from thG_20 g 1) ?_
      refine lv_iload hx hb dL_law_157 (lv_at hl 1 rfl) ?_
      refine lv_icmp_eq (tgt := 164) hx hb dL_law_159 (by decide) (fun _ => ?_) (fun hno => absurd (rfl) hno)
      refine lv_iload hx hb dL_law_164 (lv_at hl 1 rfl) ?_
      refine lv_if_ne (tgt := 181) hx hb dL_law_166 (by decide) (fun _ => ?_) (fun hno => absurd hno ((by decide)))
      refine lv_goto (tgt := 1185) hx hb dL_law_181 (by decide) ?_
      exact K _ _ _ _ _ _ _ (LI_eqY hLI hX2 (fun _ _ _ _ => rfl) hY2 (fun t9 a9 _ => thG_t g 1 a9) ⟨_, hO2⟩) hS (lv_sub hl [2, 3, 4, 5, 6] rfl)
    · exact (hc m1).elim
  · rw [hr9]
    refine lv_istore (lv' := [(5, .int (nI 2)), (4, .int (nI (i))), (3, .ref (o)), (2, .ref (bm 0)), (1, .ref (ad 0 0)), (0, .ref (b))]) hx hb dL_law_139 hl (by decide) rfl (fun ls hl => ?_)
    refine lv_aload_n hx hb dL_law_141 rfl (lv_at hl 3 rfl) ?_
    refine lv_aload_n hx hb dL_law_142 rfl (lv_at hl 5 rfl) ?_
    refine lv_iload hx hb dL_law_143 (lv_at hl 1 rfl) ?_
    refine lv_iconst (v := nI 1) hx hb dL_law_145 (by decide) ?_
    refine lv_iadd hx hb dL_law_146 ?_
    refine xtop (show ((nI (i)) + (nI 1)) = nI (i + 1) from nI_add i 1) ?_
    refine va_sld hx hb hXs hbl hbA hS (i := nI (i + 1)) (vp_in_nI (n := i + 1) (by omega) (by omega)) dL_law_147 ?_
    refine xtop (show (xs (nI (i + 1)).toNatClampNeg) = xs (i + 1) from by rw [nI_clamp (n := i + 1) (by omega)]) ?_
    refine xci (va_runV (As := [.int (xs (i + 1))]) (rest := []) ⟨hx, hb, hml, hown, hts⟩ (c_X5_addMachine l D cA e0 (cM bm) H1 bm g tt (N 0) (N 1) hY1 hYA (xs (i + 1))) ⟨(callB_of 1 hts gi_X5_addMachine rfl rfl rfl (hts _ q_ini_X5) (hts _ q_ml_L_71) hd_X5_addMachine ⟨Nat.le_of_ble_eq_true rfl, Nat.le_of_ble_eq_true rfl⟩), hts _ q_im_X5_addMachine, hts _ q_sel_X5_X5_addMachine⟩ (xpVn hE hS hcM (hY1.main) rfl) rfl rfl hl.1 rfl (lv_room (Nat.le_of_ble_eq_true rfl)) dL_law_148 ⟨(show 24 + 9 * (t + 1) + 0 ≤ 601024 by omega), (show 4951 + 56 * (t + 1) + 0 ≤ 7293033 by omega)⟩) hS hcM (fun r8 H2 locs hQ9 hz8 hk8 hS => ?_)
    refine W.widen (k := 24 + 9 * (t + 1)) (n := 4951 + 56 * (t + 1)) (by omega) (by omega) ?_
    have hX2 := hX1.mod hAx hk8
    have hO2 := hO1.kept (hk8 _ hO1.lt hoM)
    rcases hQ9 with ⟨m1, m2, hr2, g2, hY2, he2⟩ | ⟨m1, hY2⟩ | ⟨m1, m2, hY2⟩
    · exact (hc.2 m2).elim
    · exact (m1 hc.1).elim
    · refine lv_istore (lv' := [(6, .int (r8)), (5, .int (nI 2)), (4, .int (nI (i))), (3, .ref (o)), (2, .ref (bm 0)), (1, .ref (ad 0 0)), (0, .ref (b))]) hx hb dL_law_151 hl (by decide) rfl (fun ls hl => ?_)
      refine lv_aload_n hx hb dL_law_153 rfl (lv_at hl 4 rfl) ?_
      refine xcRi (va_runV (As := []) (rest := []) ⟨hx, hb, hml, hown, hts⟩ (c_X5_thrown l D cA e0 (lwA s) _ bm _ _ _ _ hY2) ⟨(callB_of 0 hts gi_X5_thrown rfl rfl rfl (hts _ q_ini_X5) (hts _ q_ml_L_72) hd_X5_thrown ⟨Nat.le_of_ble_eq_true rfl, Nat.le_of_ble_eq_true rfl⟩), hts _ q_im_X5_thrown, hts _ q_sel_X5_X5_thrown⟩ (xpV hE hS (hY2.main) rfl) rfl rfl hl.1 rfl (lv_room (Nat.le_of_ble_eq_true rfl)) dL_law_154 ⟨(show 24 + 9 * (t + 1) + 0 ≤ 601024 by omega), (show 4951 + 56 * (t + 1) + 0 ≤ 7293033 by omega)⟩) ?_
      refine xtop (show _ = nI 2 from thG_20 g 2) ?_
      refine lv_iload hx hb dL_law_157 (lv_at hl 1 rfl) ?_
      refine lv_icmp_eq (tgt := 164) hx hb dL_law_159 (by decide) (fun _ => ?_) (fun hno => absurd (rfl) hno)
      refine lv_iload hx hb dL_law_164 (lv_at hl 1 rfl) ?_
      refine lv_if_ne (tgt := 181) hx hb dL_law_166 (by decide) (fun _ => ?_) (fun hno => absurd hno ((by decide)))
      refine lv_goto (tgt := 1185) hx hb dL_law_181 (by decide) ?_
      exact K _ _ _ _ _ _ _ (LI_eqY hLI hX2 (fun _ _ _ _ => rfl) hY2 (fun t9 a9 _ => thG_t g 2 a9) ⟨_, hO2⟩) hS (lv_sub hl [2, 3, 4, 5, 6] rfl)
set_option maxHeartbeats 4000000 in
set_option maxRecDepth 100000 in
/-- the law's call 1: setMinutes -/
theorem law_c_1 {p : Program} {l : Launch} {e : Env} {s : State} {m : MethodId} {below : List Frame} {meth : Method} {c : Code} {b L : Nat} {xs : Nat → Int32} {D : va_G} {cA : Nat → ClassId} {e0 x0 o : Nat} {bm : Nat → Nat} (C : lwC p l s m meth c b L xs D cA e0 o bm) {i t : Nat} (hi : i + 5 ≤ L) (ht : t < 512) {ad : Nat → Nat → Nat} {g : Nat → Nat → Int32} {tt : Nat → Int64} {N : Nat → Nat} {H : Heap} {locs : List Loc} {ls : Array Slot} (hLI : LI D cA e0 s.heap.size x0 o bm ad g tt N H) (hS : va_S (lwA s) s.heap H locs) (hl : lv_has ls 9 [(4, .int (nI (i))), (3, .ref o), (2, .ref (bm 0)), (1, .ref x0), (0, .ref b)]) (K : lwK p l e s m below meth c b D cA e0 x0 o bm i t) : W p l e room_1 s m #[Value.ref b] below meth c H locs (24 + 9 * t) (4951 + 56 * t) (lw_Z below #[Value.ref b] s) (F0 m 184 ls []) := by
  obtain ⟨hx, hb, hr, hml, hown, hE, hNc, hXs, hbl, hlocks, hLb, hbm, hinj, ho, hob, hl9⟩ := C
  have hts := hE.1.all #[Value.ref b]
  have hK := hE.2.1
  obtain ⟨hX, hAx, hY, hI, hW, hdf, hN2, hdy, hP, hC, ⟨f0, hO⟩, rfl⟩ := id hLI
  have hn8 := hAx.n8
  have hbA : ¬ lwA s b := Nat.not_le.mpr hbl
  have hF : ∀ q, cF s.heap.size o bm q → cO s.heap.size o bm q := fun q h => Or.inl h
  have hFF : ∀ q, cF s.heap.size o bm q → lwA s q := fun q h => h.1
  have hFo : ∀ q, cO s.heap.size o bm q → lwA s q := fun q h => h.elim (fun z => z.1) (fun z => by rw [z]; exact ho)
  have hoF : ¬ cF s.heap.size o bm o := fun z => z.2.1 rfl
  have hcM : ∀ q, cM bm q → lwA s q := fun q ⟨j, hj, z⟩ => by rw [z]; exact hbm j hj
  have hbO : ∀ j, j < 14 → ¬ cO s.heap.size o bm (bm j) := fun j hj z => z.elim (fun z => z.2.2 j hj rfl) (fun z => hob j hj z.symm)
  have hoM : ¬ cM bm o := fun ⟨j, hj, z⟩ => hob j hj z
  have hYA : yA (cM bm) bm (N 0) (N 1) := ⟨hinj, fun j hj => ⟨j, hj, rfl⟩, hn8, hAx.2.2.2.2.2.2.2.1⟩
  have hAn : ∀ q, H.size ≤ q → cF s.heap.size o bm q := fun q hq => ⟨Nat.le_trans hS.1 hq, fun z => by have := hO.lt; omega, fun j hj z => by have := (hY j hj).lt; omega⟩
  refine lv_aload_n hx hb dL_law_184 rfl (lv_at hl 3 rfl) ?_
  refine lv_aload_n hx hb dL_law_185 rfl (lv_at hl 4 rfl) ?_
  refine lv_iload hx hb dL_law_186 (lv_at hl 0 rfl) ?_
  refine lv_iconst (v := nI 1) hx hb dL_law_188 (by decide) ?_
  refine lv_iadd hx hb dL_law_189 ?_
  refine xtop (show ((nI (i)) + (nI 1)) = nI (i + 1) from nI_add i 1) ?_
  refine va_sld hx hb hXs hbl hbA hS (i := nI (i + 1)) (vp_in_nI (n := i + 1) (by omega) (by omega)) dL_law_190 ?_
  refine xtop (show (xs (nI (i + 1)).toNatClampNeg) = xs (i + 1) from by rw [nI_clamp (n := i + 1) (by omega)]) ?_
  refine lv_aload_n hx hb dL_law_191 rfl (lv_at hl 4 rfl) ?_
  refine lv_iload hx hb dL_law_192 (lv_at hl 0 rfl) ?_
  refine lv_iconst (v := nI 2) hx hb dL_law_194 (by decide) ?_
  refine lv_iadd hx hb dL_law_195 ?_
  refine xtop (show ((nI (i)) + (nI 2)) = nI (i + 2) from nI_add i 2) ?_
  refine va_sld hx hb hXs hbl hbA hS (i := nI (i + 2)) (vp_in_nI (n := i + 2) (by omega) (by omega)) dL_law_196 ?_
  refine xtop (show (xs (nI (i + 2)).toNatClampNeg) = xs (i + 2) from by rw [nI_clamp (n := i + 2) (by omega)]) ?_
  refine lv_aload_n hx hb dL_law_197 rfl (lv_at hl 4 rfl) ?_
  refine lv_iload hx hb dL_law_198 (lv_at hl 0 rfl) ?_
  refine lv_iconst (v := nI 3) hx hb dL_law_200 (by decide) ?_
  refine lv_iadd hx hb dL_law_201 ?_
  refine xtop (show ((nI (i)) + (nI 3)) = nI (i + 3) from nI_add i 3) ?_
  refine va_sld hx hb hXs hbl hbA hS (i := nI (i + 3)) (vp_in_nI (n := i + 3) (by omega) (by omega)) dL_law_202 ?_
  refine xtop (show (xs (nI (i + 3)).toNatClampNeg) = xs (i + 3) from by rw [nI_clamp (n := i + 3) (by omega)]) ?_
  refine lv_aload_n hx hb dL_law_203 rfl (lv_at hl 1 rfl) ?_
  refine xci (vx_runSW (As := [.ref (ad 0 0), .int (xs (i + 1)), .int (xs (i + 2)), .int (xs (i + 3)), .ref (o)]) (rest := []) ⟨hx, hb, hml, hown, hts⟩ (c_L_setMinutes l D cA e0 (cO s.heap.size o bm) H ad g tt N hX (xs (i + 1)) (xs (i + 2)) (xs (i + 3)) (cF s.heap.size o bm) hF hAx  o f0 hO (Or.inr rfl) hoF hl9) (callSW_of 5 hts gi_L_setMinutes rfl rfl rfl (hts _ q_ini_L) (hts _ q_ml_L_76) (hts _ q_st_L_setMinutes) hd_L_setMinutes ⟨Nat.le_of_ble_eq_true rfl, Nat.le_of_ble_eq_true rfl⟩) (xpSw hE hNc hS hFo) rfl rfl hl.1 rfl (lv_room (Nat.le_of_ble_eq_true rfl)) dL_law_204 ⟨(show 24 + 9 * t + 1 ≤ 601024 by omega), (show 4951 + 56 * t + 6 ≤ 7293033 by omega)⟩) hS hFo (fun r9 H1 locs hP9 hz9 hk9 hS => ?_)
  refine W.widen (k := 24 + 9 * (t + 1)) (n := 4951 + 56 * (t + 1)) (by omega) (by omega) ?_
  have hY1 : yW D cA bm g tt (N 0) (N 1) H1 := hY.keep (fun j hj => hk9 _ (hY j hj).lt (hbO j hj))
  rcases hP9 with ⟨hr9, f1, hO1, p1, hf1, g1, hX1, hg1, hw1⟩ | ⟨hr9, hc, hX1, hO1⟩ | ⟨hr9, hc, hX1, hO1⟩
  · rw [hr9]
    refine lv_istore (lv' := [(5, .int (nI 0)), (4, .int (nI (i))), (3, .ref (o)), (2, .ref (bm 0)), (1, .ref (ad 0 0)), (0, .ref (b))]) hx hb dL_law_207 hl (by decide) rfl (fun ls hl => ?_)
    refine lv_aload_n hx hb dL_law_209 rfl (lv_at hl 3 rfl) ?_
    refine lv_aload_n hx hb dL_law_210 rfl (lv_at hl 5 rfl) ?_
    refine lv_iload hx hb dL_law_211 (lv_at hl 1 rfl) ?_
    refine lv_iconst (v := nI 1) hx hb dL_law_213 (by decide) ?_
    refine lv_iadd hx hb dL_law_214 ?_
    refine xtop (show ((nI (i)) + (nI 1)) = nI (i + 1) from nI_add i 1) ?_
    refine va_sld hx hb hXs hbl hbA hS (i := nI (i + 1)) (vp_in_nI (n := i + 1) (by omega) (by omega)) dL_law_215 ?_
    refine xtop (show (xs (nI (i + 1)).toNatClampNeg) = xs (i + 1) from by rw [nI_clamp (n := i + 1) (by omega)]) ?_
    refine lv_aload_n hx hb dL_law_216 rfl (lv_at hl 5 rfl) ?_
    refine lv_iload hx hb dL_law_217 (lv_at hl 1 rfl) ?_
    refine lv_iconst (v := nI 2) hx hb dL_law_219 (by decide) ?_
    refine lv_iadd hx hb dL_law_220 ?_
    refine xtop (show ((nI (i)) + (nI 2)) = nI (i + 2) from nI_add i 2) ?_
    refine va_sld hx hb hXs hbl hbA hS (i := nI (i + 2)) (vp_in_nI (n := i + 2) (by omega) (by omega)) dL_law_221 ?_
    refine xtop (show (xs (nI (i + 2)).toNatClampNeg) = xs (i + 2) from by rw [nI_clamp (n := i + 2) (by omega)]) ?_
    refine lv_aload_n hx hb dL_law_222 rfl (lv_at hl 5 rfl) ?_
    refine lv_iload hx hb dL_law_223 (lv_at hl 1 rfl) ?_
    refine lv_iconst (v := nI 3) hx hb dL_law_225 (by decide) ?_
    refine lv_iadd hx hb dL_law_226 ?_
    refine xtop (show ((nI (i)) + (nI 3)) = nI (i + 3) from nI_add i 3) ?_
    refine va_sld hx hb hXs hbl hbA hS (i := nI (i + 3)) (vp_in_nI (n := i + 3) (by omega) (by omega)) dL_law_227 ?_
    refine xtop (show (xs (nI (i + 3)).toNatClampNeg) = xs (i + 3) from by rw [nI_clamp (n := i + 3) (by omega)]) ?_
    refine xci (va_runV (As := [.int (xs (i + 1)), .int (xs (i + 2)), .int (xs (i + 3))]) (rest := []) ⟨hx, hb, hml, hown, hts⟩ (c_X5_setMinutes l D cA e0 (cM bm) H1 bm g tt (N 0) (N 1) hY1 hYA (xs (i + 1)) (xs (i + 2)) (xs (i + 3))) ⟨(callB_of 3 hts gi_X5_setMinutes rfl rfl rfl (hts _ q_ini_X5) (hts _ q_ml_L_79) hd_X5_setMinutes ⟨Nat.le_of_ble_eq_true rfl, Nat.le_of_ble_eq_true rfl⟩), hts _ q_im_X5_setMinutes, hts _ q_sel_X5_X5_setMinutes⟩ (xpVn hE hS hcM (hY1.main) rfl) rfl rfl hl.1 rfl (lv_room (Nat.le_of_ble_eq_true rfl)) dL_law_228 ⟨(show 24 + 9 * (t + 1) + 0 ≤ 601024 by omega), (show 4951 + 56 * (t + 1) + 0 ≤ 7293033 by omega)⟩) hS hcM (fun r8 H2 locs hQ9 hz8 hk8 hS => ?_)
    refine W.widen (k := 24 + 9 * (t + 1)) (n := 4951 + 56 * (t + 1)) (by omega) (by omega) ?_
    have hX2 := hX1.mod hAx hk8
    have hO2 := hO1.kept (hk8 _ hO1.lt hoM)
    rcases hQ9 with ⟨m1, hr2, g2, hY2, he2⟩ | ⟨m1, hY2⟩ | ⟨m1, m2, hY2⟩
    · have hcmp : f1 0 = r8.toInt64 := by rw [hf1, hr2]
      refine lv_istore (lv' := [(6, .int (r8)), (5, .int (nI 0)), (4, .int (nI (i))), (3, .ref (o)), (2, .ref (bm 0)), (1, .ref (ad 0 0)), (0, .ref (b))]) hx hb dL_law_231 hl (by decide) rfl (fun ls hl => ?_)
      refine lv_aload_n hx hb dL_law_233 rfl (lv_at hl 4 rfl) ?_
      refine xcRi (va_runV (As := []) (rest := []) ⟨hx, hb, hml, hown, hts⟩ (c_X5_thrown l D cA e0 (lwA s) _ bm _ _ _ _ hY2) ⟨(callB_of 0 hts gi_X5_thrown rfl rfl rfl (hts _ q_ini_X5) (hts _ q_ml_L_72) hd_X5_thrown ⟨Nat.le_of_ble_eq_true rfl, Nat.le_of_ble_eq_true rfl⟩), hts _ q_im_X5_thrown, hts _ q_sel_X5_X5_thrown⟩ (xpV hE hS (hY2.main) rfl) rfl rfl hl.1 rfl (lv_room (Nat.le_of_ble_eq_true rfl)) dL_law_234 ⟨(show 24 + 9 * (t + 1) + 0 ≤ 601024 by omega), (show 4951 + 56 * (t + 1) + 0 ≤ 7293033 by omega)⟩) ?_
      refine xtop (show _ = nI 0 from he2.2) ?_
      refine lv_iload hx hb dL_law_237 (lv_at hl 1 rfl) ?_
      refine lv_icmp_eq (tgt := 244) hx hb dL_law_239 (by decide) (fun _ => ?_) (fun hno => absurd (rfl) hno)
      refine lv_iload hx hb dL_law_244 (lv_at hl 1 rfl) ?_
      refine lv_if_ne (tgt := 261) hx hb dL_law_246 (by decide) (fun hno => absurd hno (fun z => z rfl)) (fun _ => ?_)
      refine lv_aload_n hx hb dL_law_249 rfl (lv_at hl 3 rfl) ?_
      refine lv_iconst (v := nI 0) hx hb dL_law_250 (by decide) ?_
      refine va_lald hx hb hK (xP1 (hO2)) 0 1 rfl rfl (i := nI 0) (vp_in_nI (n := 0) (by omega) (by omega)) dL_law_251 ?_
      refine xtopL (show ((fun z => f1 (z)) (nI 0).toNatClampNeg) = f1 (0) from by rw [nI_clamp (n := 0) (by omega)]) ?_
      refine lv_iload hx hb dL_law_252 (lv_at hl 0 rfl) ?_
      refine lv_i2l (v := r8.toInt64) hx hb dL_law_254 rfl ?_
      refine W.lcmp hx hb dL_law_255 ?_
      refine xtop (show lg_cmp (f1 (0)) (r8.toInt64) = nI 0 from by rw [hcmp]; exact lg_self _) ?_
      refine lv_if_eq (tgt := 261) hx hb dL_law_256 (by decide) (fun _ => ?_) (fun hno => absurd (rfl) hno)
      refine lv_goto (tgt := 1185) hx hb dL_law_261 (by decide) ?_
      exact K _ _ _ _ _ _ _ (LI_sm hLI hX2 hg1 hw1 hY2 he2 ⟨_, hO2⟩) hS (lv_sub hl [2, 3, 4, 5, 6] rfl)
    · exact (m1 p1.1).elim
    · exact (m2 p1.2).elim
  · rw [hr9]
    refine lv_istore (lv' := [(5, .int (nI 1)), (4, .int (nI (i))), (3, .ref (o)), (2, .ref (bm 0)), (1, .ref (ad 0 0)), (0, .ref (b))]) hx hb dL_law_207 hl (by decide) rfl (fun ls hl => ?_)
    refine lv_aload_n hx hb dL_law_209 rfl (lv_at hl 3 rfl) ?_
    refine lv_aload_n hx hb dL_law_210 rfl (lv_at hl 5 rfl) ?_
    refine lv_iload hx hb dL_law_211 (lv_at hl 1 rfl) ?_
    refine lv_iconst (v := nI 1) hx hb dL_law_213 (by decide) ?_
    refine lv_iadd hx hb dL_law_214 ?_
    refine xtop (show ((nI (i)) + (nI 1)) = nI (i + 1) from nI_add i 1) ?_
    refine va_sld hx hb hXs hbl hbA hS (i := nI (i + 1)) (vp_in_nI (n := i + 1) (by omega) (by omega)) dL_law_215 ?_
    refine xtop (show (xs (nI (i + 1)).toNatClampNeg) = xs (i + 1) from by rw [nI_clamp (n := i + 1) (by omega)]) ?_
    refine lv_aload_n hx hb dL_law_216 rfl (lv_at hl 5 rfl) ?_
    refine lv_iload hx hb dL_law_217 (lv_at hl 1 rfl) ?_
    refine lv_iconst (v := nI 2) hx hb dL_law_219 (by decide) ?_
    refine lv_iadd hx hb dL_law_220 ?_
    refine xtop (show ((nI (i)) + (nI 2)) = nI (i + 2) from nI_add i 2) ?_
    refine va_sld hx hb hXs hbl hbA hS (i := nI (i + 2)) (vp_in_nI (n := i + 2) (by omega) (by omega)) dL_law_221 ?_
    refine xtop (show (xs (nI (i + 2)).toNatClampNeg) = xs (i + 2) from by rw [nI_clamp (n := i + 2) (by omega)]) ?_
    refine lv_aload_n hx hb dL_law_222 rfl (lv_at hl 5 rfl) ?_
    refine lv_iload hx hb dL_law_223 (lv_at hl 1 rfl) ?_
    refine lv_iconst (v := nI 3) hx hb dL_law_225 (by decide) ?_
    refine lv_iadd hx hb dL_law_226 ?_
    refine xtop (show ((nI (i)) + (nI 3)) = nI (i + 3) from nI_add i 3) ?_
    refine va_sld hx hb hXs hbl hbA hS (i := nI (i + 3)) (vp_in_nI (n := i + 3) (by omega) (by omega)) dL_law_227 ?_
    refine xtop (show (xs (nI (i + 3)).toNatClampNeg) = xs (i + 3) from by rw [nI_clamp (n := i + 3) (by omega)]) ?_
    refine xci (va_runV (As := [.int (xs (i + 1)), .int (xs (i + 2)), .int (xs (i + 3))]) (rest := []) ⟨hx, hb, hml, hown, hts⟩ (c_X5_setMinutes l D cA e0 (cM bm) H1 bm g tt (N 0) (N 1) hY1 hYA (xs (i + 1)) (xs (i + 2)) (xs (i + 3))) ⟨(callB_of 3 hts gi_X5_setMinutes rfl rfl rfl (hts _ q_ini_X5) (hts _ q_ml_L_79) hd_X5_setMinutes ⟨Nat.le_of_ble_eq_true rfl, Nat.le_of_ble_eq_true rfl⟩), hts _ q_im_X5_setMinutes, hts _ q_sel_X5_X5_setMinutes⟩ (xpVn hE hS hcM (hY1.main) rfl) rfl rfl hl.1 rfl (lv_room (Nat.le_of_ble_eq_true rfl)) dL_law_228 ⟨(show 24 + 9 * (t + 1) + 0 ≤ 601024 by omega), (show 4951 + 56 * (t + 1) + 0 ≤ 7293033 by omega)⟩) hS hcM (fun r8 H2 locs hQ9 hz8 hk8 hS => ?_)
    refine W.widen (k := 24 + 9 * (t + 1)) (n := 4951 + 56 * (t + 1)) (by omega) (by omega) ?_
    have hX2 := hX1.mod hAx hk8
    have hO2 := hO1.kept (hk8 _ hO1.lt hoM)
    rcases hQ9 with ⟨m1, hr2, g2, hY2, he2⟩ | ⟨m1, hY2⟩ | ⟨m1, m2, hY2⟩
    · exact (hc m1.1).elim
    · refine lv_istore (lv' := [(6, .int (r8)), (5, .int (nI 1)), (4, .int (nI (i))), (3, .ref (o)), (2, .ref (bm 0)), (1, .ref (ad 0 0)), (0, .ref (b))]) hx hb dL_law_231 hl (by decide) rfl (fun ls hl => ?_)
      refine lv_aload_n hx hb dL_law_233 rfl (lv_at hl 4 rfl) ?_
      refine xcRi (va_runV (As := []) (rest := []) ⟨hx, hb, hml, hown, hts⟩ (c_X5_thrown l D cA e0 (lwA s) _ bm _ _ _ _ hY2) ⟨(callB_of 0 hts gi_X5_thrown rfl rfl rfl (hts _ q_ini_X5) (hts _ q_ml_L_72) hd_X5_thrown ⟨Nat.le_of_ble_eq_true rfl, Nat.le_of_ble_eq_true rfl⟩), hts _ q_im_X5_thrown, hts _ q_sel_X5_X5_thrown⟩ (xpV hE hS (hY2.main) rfl) rfl rfl hl.1 rfl (lv_room (Nat.le_of_ble_eq_true rfl)) dL_law_234 ⟨(show 24 + 9 * (t + 1) + 0 ≤ 601024 by omega), (show 4951 + 56 * (t + 1) + 0 ≤ 7293033 by omega)⟩) ?_
      refine xtop (show _ = nI 1 from thG_20 g 1) ?_
      refine lv_iload hx hb dL_law_237 (lv_at hl 1 rfl) ?_
      refine lv_icmp_eq (tgt := 244) hx hb dL_law_239 (by decide) (fun _ => ?_) (fun hno => absurd (rfl) hno)
      refine lv_iload hx hb dL_law_244 (lv_at hl 1 rfl) ?_
      refine lv_if_ne (tgt := 261) hx hb dL_law_246 (by decide) (fun _ => ?_) (fun hno => absurd hno ((by decide)))
      refine lv_goto (tgt := 1185) hx hb dL_law_261 (by decide) ?_
      exact K _ _ _ _ _ _ _ (LI_eqY hLI hX2 (fun _ _ _ _ => rfl) hY2 (fun t9 a9 _ => thG_t g 1 a9) ⟨_, hO2⟩) hS (lv_sub hl [2, 3, 4, 5, 6] rfl)
    · exact (hc m1).elim
  · rw [hr9]
    refine lv_istore (lv' := [(5, .int (nI 2)), (4, .int (nI (i))), (3, .ref (o)), (2, .ref (bm 0)), (1, .ref (ad 0 0)), (0, .ref (b))]) hx hb dL_law_207 hl (by decide) rfl (fun ls hl => ?_)
    refine lv_aload_n hx hb dL_law_209 rfl (lv_at hl 3 rfl) ?_
    refine lv_aload_n hx hb dL_law_210 rfl (lv_at hl 5 rfl) ?_
    refine lv_iload hx hb dL_law_211 (lv_at hl 1 rfl) ?_
    refine lv_iconst (v := nI 1) hx hb dL_law_213 (by decide) ?_
    refine lv_iadd hx hb dL_law_214 ?_
    refine xtop (show ((nI (i)) + (nI 1)) = nI (i + 1) from nI_add i 1) ?_
    refine va_sld hx hb hXs hbl hbA hS (i := nI (i + 1)) (vp_in_nI (n := i + 1) (by omega) (by omega)) dL_law_215 ?_
    refine xtop (show (xs (nI (i + 1)).toNatClampNeg) = xs (i + 1) from by rw [nI_clamp (n := i + 1) (by omega)]) ?_
    refine lv_aload_n hx hb dL_law_216 rfl (lv_at hl 5 rfl) ?_
    refine lv_iload hx hb dL_law_217 (lv_at hl 1 rfl) ?_
    refine lv_iconst (v := nI 2) hx hb dL_law_219 (by decide) ?_
    refine lv_iadd hx hb dL_law_220 ?_
    refine xtop (show ((nI (i)) + (nI 2)) = nI (i + 2) from nI_add i 2) ?_
    refine va_sld hx hb hXs hbl hbA hS (i := nI (i + 2)) (vp_in_nI (n := i + 2) (by omega) (by omega)) dL_law_221 ?_
    refine xtop (show (xs (nI (i + 2)).toNatClampNeg) = xs (i + 2) from by rw [nI_clamp (n := i + 2) (by omega)]) ?_
    refine lv_aload_n hx hb dL_law_222 rfl (lv_at hl 5 rfl) ?_
    refine lv_iload hx hb dL_law_223 (lv_at hl 1 rfl) ?_
    refine lv_iconst (v := nI 3) hx hb dL_law_225 (by decide) ?_
    refine lv_iadd hx hb dL_law_226 ?_
    refine xtop (show ((nI (i)) + (nI 3)) = nI (i + 3) from nI_add i 3) ?_
    refine va_sld hx hb hXs hbl hbA hS (i := nI (i + 3)) (vp_in_nI (n := i + 3) (by omega) (by omega)) dL_law_227 ?_
    refine xtop (show (xs (nI (i + 3)).toNatClampNeg) = xs (i + 3) from by rw [nI_clamp (n := i + 3) (by omega)]) ?_
    refine xci (va_runV (As := [.int (xs (i + 1)), .int (xs (i + 2)), .int (xs (i + 3))]) (rest := []) ⟨hx, hb, hml, hown, hts⟩ (c_X5_setMinutes l D cA e0 (cM bm) H1 bm g tt (N 0) (N 1) hY1 hYA (xs (i + 1)) (xs (i + 2)) (xs (i + 3))) ⟨(callB_of 3 hts gi_X5_setMinutes rfl rfl rfl (hts _ q_ini_X5) (hts _ q_ml_L_79) hd_X5_setMinutes ⟨Nat.le_of_ble_eq_true rfl, Nat.le_of_ble_eq_true rfl⟩), hts _ q_im_X5_setMinutes, hts _ q_sel_X5_X5_setMinutes⟩ (xpVn hE hS hcM (hY1.main) rfl) rfl rfl hl.1 rfl (lv_room (Nat.le_of_ble_eq_true rfl)) dL_law_228 ⟨(show 24 + 9 * (t + 1) + 0 ≤ 601024 by omega), (show 4951 + 56 * (t + 1) + 0 ≤ 7293033 by omega)⟩) hS hcM (fun r8 H2 locs hQ9 hz8 hk8 hS => ?_)
    refine W.widen (k := 24 + 9 * (t + 1)) (n := 4951 + 56 * (t + 1)) (by omega) (by omega) ?_
    have hX2 := hX1.mod hAx hk8
    have hO2 := hO1.kept (hk8 _ hO1.lt hoM)
    rcases hQ9 with ⟨m1, hr2, g2, hY2, he2⟩ | ⟨m1, hY2⟩ | ⟨m1, m2, hY2⟩
    · exact (hc.2 m1.2).elim
    · exact (m1 hc.1).elim
    · refine lv_istore (lv' := [(6, .int (r8)), (5, .int (nI 2)), (4, .int (nI (i))), (3, .ref (o)), (2, .ref (bm 0)), (1, .ref (ad 0 0)), (0, .ref (b))]) hx hb dL_law_231 hl (by decide) rfl (fun ls hl => ?_)
      refine lv_aload_n hx hb dL_law_233 rfl (lv_at hl 4 rfl) ?_
      refine xcRi (va_runV (As := []) (rest := []) ⟨hx, hb, hml, hown, hts⟩ (c_X5_thrown l D cA e0 (lwA s) _ bm _ _ _ _ hY2) ⟨(callB_of 0 hts gi_X5_thrown rfl rfl rfl (hts _ q_ini_X5) (hts _ q_ml_L_72) hd_X5_thrown ⟨Nat.le_of_ble_eq_true rfl, Nat.le_of_ble_eq_true rfl⟩), hts _ q_im_X5_thrown, hts _ q_sel_X5_X5_thrown⟩ (xpV hE hS (hY2.main) rfl) rfl rfl hl.1 rfl (lv_room (Nat.le_of_ble_eq_true rfl)) dL_law_234 ⟨(show 24 + 9 * (t + 1) + 0 ≤ 601024 by omega), (show 4951 + 56 * (t + 1) + 0 ≤ 7293033 by omega)⟩) ?_
      refine xtop (show _ = nI 2 from thG_20 g 2) ?_
      refine lv_iload hx hb dL_law_237 (lv_at hl 1 rfl) ?_
      refine lv_icmp_eq (tgt := 244) hx hb dL_law_239 (by decide) (fun _ => ?_) (fun hno => absurd (rfl) hno)
      refine lv_iload hx hb dL_law_244 (lv_at hl 1 rfl) ?_
      refine lv_if_ne (tgt := 261) hx hb dL_law_246 (by decide) (fun _ => ?_) (fun hno => absurd hno ((by decide)))
      refine lv_goto (tgt := 1185) hx hb dL_law_261 (by decide) ?_
      exact K _ _ _ _ _ _ _ (LI_eqY hLI hX2 (fun _ _ _ _ => rfl) hY2 (fun t9 a9 _ => thG_t g 2 a9) ⟨_, hO2⟩) hS (lv_sub hl [2, 3, 4, 5, 6] rfl)
set_option maxHeartbeats 4000000 in
set_option maxRecDepth 100000 in
/-- the law's call 2: setSlot -/
theorem law_c_2 {p : Program} {l : Launch} {e : Env} {s : State} {m : MethodId} {below : List Frame} {meth : Method} {c : Code} {b L : Nat} {xs : Nat → Int32} {D : va_G} {cA : Nat → ClassId} {e0 x0 o : Nat} {bm : Nat → Nat} (C : lwC p l s m meth c b L xs D cA e0 o bm) {i t : Nat} (hi : i + 5 ≤ L) (ht : t < 512) {ad : Nat → Nat → Nat} {g : Nat → Nat → Int32} {tt : Nat → Int64} {N : Nat → Nat} {H : Heap} {locs : List Loc} {ls : Array Slot} (hLI : LI D cA e0 s.heap.size x0 o bm ad g tt N H) (hS : va_S (lwA s) s.heap H locs) (hl : lv_has ls 9 [(4, .int (nI (i))), (3, .ref o), (2, .ref (bm 0)), (1, .ref x0), (0, .ref b)]) (K : lwK p l e s m below meth c b D cA e0 x0 o bm i t) : W p l e room_1 s m #[Value.ref b] below meth c H locs (24 + 9 * t) (4951 + 56 * t) (lw_Z below #[Value.ref b] s) (F0 m 264 ls []) := by
  obtain ⟨hx, hb, hr, hml, hown, hE, hNc, hXs, hbl, hlocks, hLb, hbm, hinj, ho, hob, hl9⟩ := C
  have hts := hE.1.all #[Value.ref b]
  have hK := hE.2.1
  obtain ⟨hX, hAx, hY, hI, hW, hdf, hN2, hdy, hP, hC, ⟨f0, hO⟩, rfl⟩ := id hLI
  have hn8 := hAx.n8
  have hbA : ¬ lwA s b := Nat.not_le.mpr hbl
  have hF : ∀ q, cF s.heap.size o bm q → cO s.heap.size o bm q := fun q h => Or.inl h
  have hFF : ∀ q, cF s.heap.size o bm q → lwA s q := fun q h => h.1
  have hFo : ∀ q, cO s.heap.size o bm q → lwA s q := fun q h => h.elim (fun z => z.1) (fun z => by rw [z]; exact ho)
  have hoF : ¬ cF s.heap.size o bm o := fun z => z.2.1 rfl
  have hcM : ∀ q, cM bm q → lwA s q := fun q ⟨j, hj, z⟩ => by rw [z]; exact hbm j hj
  have hbO : ∀ j, j < 14 → ¬ cO s.heap.size o bm (bm j) := fun j hj z => z.elim (fun z => z.2.2 j hj rfl) (fun z => hob j hj z.symm)
  have hoM : ¬ cM bm o := fun ⟨j, hj, z⟩ => hob j hj z
  have hYA : yA (cM bm) bm (N 0) (N 1) := ⟨hinj, fun j hj => ⟨j, hj, rfl⟩, hn8, hAx.2.2.2.2.2.2.2.1⟩
  have hAn : ∀ q, H.size ≤ q → cF s.heap.size o bm q := fun q hq => ⟨Nat.le_trans hS.1 hq, fun z => by have := hO.lt; omega, fun j hj z => by have := (hY j hj).lt; omega⟩
  refine lv_aload_n hx hb dL_law_264 rfl (lv_at hl 3 rfl) ?_
  refine lv_aload_n hx hb dL_law_265 rfl (lv_at hl 4 rfl) ?_
  refine lv_iload hx hb dL_law_266 (lv_at hl 0 rfl) ?_
  refine lv_iconst (v := nI 1) hx hb dL_law_268 (by decide) ?_
  refine lv_iadd hx hb dL_law_269 ?_
  refine xtop (show ((nI (i)) + (nI 1)) = nI (i + 1) from nI_add i 1) ?_
  refine va_sld hx hb hXs hbl hbA hS (i := nI (i + 1)) (vp_in_nI (n := i + 1) (by omega) (by omega)) dL_law_270 ?_
  refine xtop (show (xs (nI (i + 1)).toNatClampNeg) = xs (i + 1) from by rw [nI_clamp (n := i + 1) (by omega)]) ?_
  refine lv_aload_n hx hb dL_law_271 rfl (lv_at hl 4 rfl) ?_
  refine lv_iload hx hb dL_law_272 (lv_at hl 0 rfl) ?_
  refine lv_iconst (v := nI 2) hx hb dL_law_274 (by decide) ?_
  refine lv_iadd hx hb dL_law_275 ?_
  refine xtop (show ((nI (i)) + (nI 2)) = nI (i + 2) from nI_add i 2) ?_
  refine va_sld hx hb hXs hbl hbA hS (i := nI (i + 2)) (vp_in_nI (n := i + 2) (by omega) (by omega)) dL_law_276 ?_
  refine xtop (show (xs (nI (i + 2)).toNatClampNeg) = xs (i + 2) from by rw [nI_clamp (n := i + 2) (by omega)]) ?_
  refine lv_aload_n hx hb dL_law_277 rfl (lv_at hl 4 rfl) ?_
  refine lv_iload hx hb dL_law_278 (lv_at hl 0 rfl) ?_
  refine lv_iconst (v := nI 3) hx hb dL_law_280 (by decide) ?_
  refine lv_iadd hx hb dL_law_281 ?_
  refine xtop (show ((nI (i)) + (nI 3)) = nI (i + 3) from nI_add i 3) ?_
  refine va_sld hx hb hXs hbl hbA hS (i := nI (i + 3)) (vp_in_nI (n := i + 3) (by omega) (by omega)) dL_law_282 ?_
  refine xtop (show (xs (nI (i + 3)).toNatClampNeg) = xs (i + 3) from by rw [nI_clamp (n := i + 3) (by omega)]) ?_
  refine lv_aload_n hx hb dL_law_283 rfl (lv_at hl 4 rfl) ?_
  refine lv_iload hx hb dL_law_284 (lv_at hl 0 rfl) ?_
  refine lv_iconst (v := nI 4) hx hb dL_law_286 (by decide) ?_
  refine lv_iadd hx hb dL_law_287 ?_
  refine xtop (show ((nI (i)) + (nI 4)) = nI (i + 4) from nI_add i 4) ?_
  refine va_sld hx hb hXs hbl hbA hS (i := nI (i + 4)) (vp_in_nI (n := i + 4) (by omega) (by omega)) dL_law_288 ?_
  refine xtop (show (xs (nI (i + 4)).toNatClampNeg) = xs (i + 4) from by rw [nI_clamp (n := i + 4) (by omega)]) ?_
  refine lv_aload_n hx hb dL_law_289 rfl (lv_at hl 1 rfl) ?_
  refine xci (vx_runSW (As := [.ref (ad 0 0), .int (xs (i + 1)), .int (xs (i + 2)), .int (xs (i + 3)), .int (xs (i + 4)), .ref (o)]) (rest := []) ⟨hx, hb, hml, hown, hts⟩ (c_L_setSlot l D cA e0 (cO s.heap.size o bm) H ad g tt N hX (xs (i + 1)) (xs (i + 2)) (xs (i + 3)) (xs (i + 4)) (cF s.heap.size o bm) hF hAx  o f0 hO (Or.inr rfl) hoF hl9) (callSW_of 6 hts gi_L_setSlot rfl rfl rfl (hts _ q_ini_L) (hts _ q_ml_L_80) (hts _ q_st_L_setSlot) hd_L_setSlot ⟨Nat.le_of_ble_eq_true rfl, Nat.le_of_ble_eq_true rfl⟩) (xpSw hE hNc hS hFo) rfl rfl hl.1 rfl (lv_room (Nat.le_of_ble_eq_true rfl)) dL_law_290 ⟨(show 24 + 9 * t + 4 ≤ 601024 by omega), (show 4951 + 56 * t + 24 ≤ 7293033 by omega)⟩) hS hFo (fun r9 H1 locs hP9 hz9 hk9 hS => ?_)
  refine W.widen (k := 24 + 9 * (t + 1)) (n := 4951 + 56 * (t + 1)) (by omega) (by omega) ?_
  have hY1 : yW D cA bm g tt (N 0) (N 1) H1 := hY.keep (fun j hj => hk9 _ (hY j hj).lt (hbO j hj))
  rcases hP9 with ⟨hr9, f1, hO1, p1, hf1, hX1⟩ | ⟨hr9, hc, hX1, hO1⟩ | ⟨hr9, hc, hX1, hO1⟩
  · rw [hr9]
    refine lv_istore (lv' := [(5, .int (nI 0)), (4, .int (nI (i))), (3, .ref (o)), (2, .ref (bm 0)), (1, .ref (ad 0 0)), (0, .ref (b))]) hx hb dL_law_293 hl (by decide) rfl (fun ls hl => ?_)
    refine lv_aload_n hx hb dL_law_295 rfl (lv_at hl 3 rfl) ?_
    refine lv_aload_n hx hb dL_law_296 rfl (lv_at hl 5 rfl) ?_
    refine lv_iload hx hb dL_law_297 (lv_at hl 1 rfl) ?_
    refine lv_iconst (v := nI 1) hx hb dL_law_299 (by decide) ?_
    refine lv_iadd hx hb dL_law_300 ?_
    refine xtop (show ((nI (i)) + (nI 1)) = nI (i + 1) from nI_add i 1) ?_
    refine va_sld hx hb hXs hbl hbA hS (i := nI (i + 1)) (vp_in_nI (n := i + 1) (by omega) (by omega)) dL_law_301 ?_
    refine xtop (show (xs (nI (i + 1)).toNatClampNeg) = xs (i + 1) from by rw [nI_clamp (n := i + 1) (by omega)]) ?_
    refine lv_aload_n hx hb dL_law_302 rfl (lv_at hl 5 rfl) ?_
    refine lv_iload hx hb dL_law_303 (lv_at hl 1 rfl) ?_
    refine lv_iconst (v := nI 2) hx hb dL_law_305 (by decide) ?_
    refine lv_iadd hx hb dL_law_306 ?_
    refine xtop (show ((nI (i)) + (nI 2)) = nI (i + 2) from nI_add i 2) ?_
    refine va_sld hx hb hXs hbl hbA hS (i := nI (i + 2)) (vp_in_nI (n := i + 2) (by omega) (by omega)) dL_law_307 ?_
    refine xtop (show (xs (nI (i + 2)).toNatClampNeg) = xs (i + 2) from by rw [nI_clamp (n := i + 2) (by omega)]) ?_
    refine lv_aload_n hx hb dL_law_308 rfl (lv_at hl 5 rfl) ?_
    refine lv_iload hx hb dL_law_309 (lv_at hl 1 rfl) ?_
    refine lv_iconst (v := nI 3) hx hb dL_law_311 (by decide) ?_
    refine lv_iadd hx hb dL_law_312 ?_
    refine xtop (show ((nI (i)) + (nI 3)) = nI (i + 3) from nI_add i 3) ?_
    refine va_sld hx hb hXs hbl hbA hS (i := nI (i + 3)) (vp_in_nI (n := i + 3) (by omega) (by omega)) dL_law_313 ?_
    refine xtop (show (xs (nI (i + 3)).toNatClampNeg) = xs (i + 3) from by rw [nI_clamp (n := i + 3) (by omega)]) ?_
    refine lv_aload_n hx hb dL_law_314 rfl (lv_at hl 5 rfl) ?_
    refine lv_iload hx hb dL_law_315 (lv_at hl 1 rfl) ?_
    refine lv_iconst (v := nI 4) hx hb dL_law_317 (by decide) ?_
    refine lv_iadd hx hb dL_law_318 ?_
    refine xtop (show ((nI (i)) + (nI 4)) = nI (i + 4) from nI_add i 4) ?_
    refine va_sld hx hb hXs hbl hbA hS (i := nI (i + 4)) (vp_in_nI (n := i + 4) (by omega) (by omega)) dL_law_319 ?_
    refine xtop (show (xs (nI (i + 4)).toNatClampNeg) = xs (i + 4) from by rw [nI_clamp (n := i + 4) (by omega)]) ?_
    refine xci (va_runV (As := [.int (xs (i + 1)), .int (xs (i + 2)), .int (xs (i + 3)), .int (xs (i + 4))]) (rest := []) ⟨hx, hb, hml, hown, hts⟩ (c_X5_setSlot l D cA e0 (cM bm) H1 bm g tt (N 0) (N 1) hY1 hYA (xs (i + 1)) (xs (i + 2)) (xs (i + 3)) (xs (i + 4))) ⟨(callB_of 4 hts gi_X5_setSlot rfl rfl rfl (hts _ q_ini_X5) (hts _ q_ml_L_83) hd_X5_setSlot ⟨Nat.le_of_ble_eq_true rfl, Nat.le_of_ble_eq_true rfl⟩), hts _ q_im_X5_setSlot, hts _ q_sel_X5_X5_setSlot⟩ (xpVn hE hS hcM (hY1.main) rfl) rfl rfl hl.1 rfl (lv_room (Nat.le_of_ble_eq_true rfl)) dL_law_320 ⟨(show 24 + 9 * (t + 1) + 0 ≤ 601024 by omega), (show 4951 + 56 * (t + 1) + 0 ≤ 7293033 by omega)⟩) hS hcM (fun r8 H2 locs hQ9 hz8 hk8 hS => ?_)
    refine W.widen (k := 24 + 9 * (t + 1)) (n := 4951 + 56 * (t + 1)) (by omega) (by omega) ?_
    have hX2 := hX1.mod hAx hk8
    have hO2 := hO1.kept (hk8 _ hO1.lt hoM)
    rcases hQ9 with ⟨m1, hr2, g2, hY2, he2⟩ | ⟨m1, hY2⟩ | ⟨m1, m2, hY2⟩
    · have hcmp : f1 0 = r8.toInt64 := by rw [hf1, hr2]
      refine lv_istore (lv' := [(6, .int (r8)), (5, .int (nI 0)), (4, .int (nI (i))), (3, .ref (o)), (2, .ref (bm 0)), (1, .ref (ad 0 0)), (0, .ref (b))]) hx hb dL_law_323 hl (by decide) rfl (fun ls hl => ?_)
      refine lv_aload_n hx hb dL_law_325 rfl (lv_at hl 4 rfl) ?_
      refine xcRi (va_runV (As := []) (rest := []) ⟨hx, hb, hml, hown, hts⟩ (c_X5_thrown l D cA e0 (lwA s) _ bm _ _ _ _ hY2) ⟨(callB_of 0 hts gi_X5_thrown rfl rfl rfl (hts _ q_ini_X5) (hts _ q_ml_L_72) hd_X5_thrown ⟨Nat.le_of_ble_eq_true rfl, Nat.le_of_ble_eq_true rfl⟩), hts _ q_im_X5_thrown, hts _ q_sel_X5_X5_thrown⟩ (xpV hE hS (hY2.main) rfl) rfl rfl hl.1 rfl (lv_room (Nat.le_of_ble_eq_true rfl)) dL_law_326 ⟨(show 24 + 9 * (t + 1) + 0 ≤ 601024 by omega), (show 4951 + 56 * (t + 1) + 0 ≤ 7293033 by omega)⟩) ?_
      refine xtop (show _ = nI 0 from he2.2) ?_
      refine lv_iload hx hb dL_law_329 (lv_at hl 1 rfl) ?_
      refine lv_icmp_eq (tgt := 336) hx hb dL_law_331 (by decide) (fun _ => ?_) (fun hno => absurd (rfl) hno)
      refine lv_iload hx hb dL_law_336 (lv_at hl 1 rfl) ?_
      refine lv_if_ne (tgt := 353) hx hb dL_law_338 (by decide) (fun hno => absurd hno (fun z => z rfl)) (fun _ => ?_)
      refine lv_aload_n hx hb dL_law_341 rfl (lv_at hl 3 rfl) ?_
      refine lv_iconst (v := nI 0) hx hb dL_law_342 (by decide) ?_
      refine va_lald hx hb hK (xP1 (hO2)) 0 1 rfl rfl (i := nI 0) (vp_in_nI (n := 0) (by omega) (by omega)) dL_law_343 ?_
      refine xtopL (show ((fun z => f1 (z)) (nI 0).toNatClampNeg) = f1 (0) from by rw [nI_clamp (n := 0) (by omega)]) ?_
      refine lv_iload hx hb dL_law_344 (lv_at hl 0 rfl) ?_
      refine lv_i2l (v := r8.toInt64) hx hb dL_law_346 rfl ?_
      refine W.lcmp hx hb dL_law_347 ?_
      refine xtop (show lg_cmp (f1 (0)) (r8.toInt64) = nI 0 from by rw [hcmp]; exact lg_self _) ?_
      refine lv_if_eq (tgt := 353) hx hb dL_law_348 (by decide) (fun _ => ?_) (fun hno => absurd (rfl) hno)
      refine lv_goto (tgt := 1185) hx hb dL_law_353 (by decide) ?_
      exact K _ _ _ _ _ _ _ (LI_ss hLI (okS_lt p1.1 hn8) p1.2.1 p1.2.2 hX2 hY2 he2 ⟨_, hO2⟩) hS (lv_sub hl [2, 3, 4, 5, 6] rfl)
    · exact (m1 p1.1).elim
    · exact (m2 p1.2).elim
  · rw [hr9]
    refine lv_istore (lv' := [(5, .int (nI 1)), (4, .int (nI (i))), (3, .ref (o)), (2, .ref (bm 0)), (1, .ref (ad 0 0)), (0, .ref (b))]) hx hb dL_law_293 hl (by decide) rfl (fun ls hl => ?_)
    refine lv_aload_n hx hb dL_law_295 rfl (lv_at hl 3 rfl) ?_
    refine lv_aload_n hx hb dL_law_296 rfl (lv_at hl 5 rfl) ?_
    refine lv_iload hx hb dL_law_297 (lv_at hl 1 rfl) ?_
    refine lv_iconst (v := nI 1) hx hb dL_law_299 (by decide) ?_
    refine lv_iadd hx hb dL_law_300 ?_
    refine xtop (show ((nI (i)) + (nI 1)) = nI (i + 1) from nI_add i 1) ?_
    refine va_sld hx hb hXs hbl hbA hS (i := nI (i + 1)) (vp_in_nI (n := i + 1) (by omega) (by omega)) dL_law_301 ?_
    refine xtop (show (xs (nI (i + 1)).toNatClampNeg) = xs (i + 1) from by rw [nI_clamp (n := i + 1) (by omega)]) ?_
    refine lv_aload_n hx hb dL_law_302 rfl (lv_at hl 5 rfl) ?_
    refine lv_iload hx hb dL_law_303 (lv_at hl 1 rfl) ?_
    refine lv_iconst (v := nI 2) hx hb dL_law_305 (by decide) ?_
    refine lv_iadd hx hb dL_law_306 ?_
    refine xtop (show ((nI (i)) + (nI 2)) = nI (i + 2) from nI_add i 2) ?_
    refine va_sld hx hb hXs hbl hbA hS (i := nI (i + 2)) (vp_in_nI (n := i + 2) (by omega) (by omega)) dL_law_307 ?_
    refine xtop (show (xs (nI (i + 2)).toNatClampNeg) = xs (i + 2) from by rw [nI_clamp (n := i + 2) (by omega)]) ?_
    refine lv_aload_n hx hb dL_law_308 rfl (lv_at hl 5 rfl) ?_
    refine lv_iload hx hb dL_law_309 (lv_at hl 1 rfl) ?_
    refine lv_iconst (v := nI 3) hx hb dL_law_311 (by decide) ?_
    refine lv_iadd hx hb dL_law_312 ?_
    refine xtop (show ((nI (i)) + (nI 3)) = nI (i + 3) from nI_add i 3) ?_
    refine va_sld hx hb hXs hbl hbA hS (i := nI (i + 3)) (vp_in_nI (n := i + 3) (by omega) (by omega)) dL_law_313 ?_
    refine xtop (show (xs (nI (i + 3)).toNatClampNeg) = xs (i + 3) from by rw [nI_clamp (n := i + 3) (by omega)]) ?_
    refine lv_aload_n hx hb dL_law_314 rfl (lv_at hl 5 rfl) ?_
    refine lv_iload hx hb dL_law_315 (lv_at hl 1 rfl) ?_
    refine lv_iconst (v := nI 4) hx hb dL_law_317 (by decide) ?_
    refine lv_iadd hx hb dL_law_318 ?_
    refine xtop (show ((nI (i)) + (nI 4)) = nI (i + 4) from nI_add i 4) ?_
    refine va_sld hx hb hXs hbl hbA hS (i := nI (i + 4)) (vp_in_nI (n := i + 4) (by omega) (by omega)) dL_law_319 ?_
    refine xtop (show (xs (nI (i + 4)).toNatClampNeg) = xs (i + 4) from by rw [nI_clamp (n := i + 4) (by omega)]) ?_
    refine xci (va_runV (As := [.int (xs (i + 1)), .int (xs (i + 2)), .int (xs (i + 3)), .int (xs (i + 4))]) (rest := []) ⟨hx, hb, hml, hown, hts⟩ (c_X5_setSlot l D cA e0 (cM bm) H1 bm g tt (N 0) (N 1) hY1 hYA (xs (i + 1)) (xs (i + 2)) (xs (i + 3)) (xs (i + 4))) ⟨(callB_of 4 hts gi_X5_setSlot rfl rfl rfl (hts _ q_ini_X5) (hts _ q_ml_L_83) hd_X5_setSlot ⟨Nat.le_of_ble_eq_true rfl, Nat.le_of_ble_eq_true rfl⟩), hts _ q_im_X5_setSlot, hts _ q_sel_X5_X5_setSlot⟩ (xpVn hE hS hcM (hY1.main) rfl) rfl rfl hl.1 rfl (lv_room (Nat.le_of_ble_eq_true rfl)) dL_law_320 ⟨(show 24 + 9 * (t + 1) + 0 ≤ 601024 by omega), (show 4951 + 56 * (t + 1) + 0 ≤ 7293033 by omega)⟩) hS hcM (fun r8 H2 locs hQ9 hz8 hk8 hS => ?_)
    refine W.widen (k := 24 + 9 * (t + 1)) (n := 4951 + 56 * (t + 1)) (by omega) (by omega) ?_
    have hX2 := hX1.mod hAx hk8
    have hO2 := hO1.kept (hk8 _ hO1.lt hoM)
    rcases hQ9 with ⟨m1, hr2, g2, hY2, he2⟩ | ⟨m1, hY2⟩ | ⟨m1, m2, hY2⟩
    · exact (hc m1.1).elim
    · refine lv_istore (lv' := [(6, .int (r8)), (5, .int (nI 1)), (4, .int (nI (i))), (3, .ref (o)), (2, .ref (bm 0)), (1, .ref (ad 0 0)), (0, .ref (b))]) hx hb dL_law_323 hl (by decide) rfl (fun ls hl => ?_)
      refine lv_aload_n hx hb dL_law_325 rfl (lv_at hl 4 rfl) ?_
      refine xcRi (va_runV (As := []) (rest := []) ⟨hx, hb, hml, hown, hts⟩ (c_X5_thrown l D cA e0 (lwA s) _ bm _ _ _ _ hY2) ⟨(callB_of 0 hts gi_X5_thrown rfl rfl rfl (hts _ q_ini_X5) (hts _ q_ml_L_72) hd_X5_thrown ⟨Nat.le_of_ble_eq_true rfl, Nat.le_of_ble_eq_true rfl⟩), hts _ q_im_X5_thrown, hts _ q_sel_X5_X5_thrown⟩ (xpV hE hS (hY2.main) rfl) rfl rfl hl.1 rfl (lv_room (Nat.le_of_ble_eq_true rfl)) dL_law_326 ⟨(show 24 + 9 * (t + 1) + 0 ≤ 601024 by omega), (show 4951 + 56 * (t + 1) + 0 ≤ 7293033 by omega)⟩) ?_
      refine xtop (show _ = nI 1 from thG_20 g 1) ?_
      refine lv_iload hx hb dL_law_329 (lv_at hl 1 rfl) ?_
      refine lv_icmp_eq (tgt := 336) hx hb dL_law_331 (by decide) (fun _ => ?_) (fun hno => absurd (rfl) hno)
      refine lv_iload hx hb dL_law_336 (lv_at hl 1 rfl) ?_
      refine lv_if_ne (tgt := 353) hx hb dL_law_338 (by decide) (fun _ => ?_) (fun hno => absurd hno ((by decide)))
      refine lv_goto (tgt := 1185) hx hb dL_law_353 (by decide) ?_
      exact K _ _ _ _ _ _ _ (LI_eqY hLI hX2 (fun _ _ _ _ => rfl) hY2 (fun t9 a9 _ => thG_t g 1 a9) ⟨_, hO2⟩) hS (lv_sub hl [2, 3, 4, 5, 6] rfl)
    · exact (hc m1).elim
  · rw [hr9]
    refine lv_istore (lv' := [(5, .int (nI 2)), (4, .int (nI (i))), (3, .ref (o)), (2, .ref (bm 0)), (1, .ref (ad 0 0)), (0, .ref (b))]) hx hb dL_law_293 hl (by decide) rfl (fun ls hl => ?_)
    refine lv_aload_n hx hb dL_law_295 rfl (lv_at hl 3 rfl) ?_
    refine lv_aload_n hx hb dL_law_296 rfl (lv_at hl 5 rfl) ?_
    refine lv_iload hx hb dL_law_297 (lv_at hl 1 rfl) ?_
    refine lv_iconst (v := nI 1) hx hb dL_law_299 (by decide) ?_
    refine lv_iadd hx hb dL_law_300 ?_
    refine xtop (show ((nI (i)) + (nI 1)) = nI (i + 1) from nI_add i 1) ?_
    refine va_sld hx hb hXs hbl hbA hS (i := nI (i + 1)) (vp_in_nI (n := i + 1) (by omega) (by omega)) dL_law_301 ?_
    refine xtop (show (xs (nI (i + 1)).toNatClampNeg) = xs (i + 1) from by rw [nI_clamp (n := i + 1) (by omega)]) ?_
    refine lv_aload_n hx hb dL_law_302 rfl (lv_at hl 5 rfl) ?_
    refine lv_iload hx hb dL_law_303 (lv_at hl 1 rfl) ?_
    refine lv_iconst (v := nI 2) hx hb dL_law_305 (by decide) ?_
    refine lv_iadd hx hb dL_law_306 ?_
    refine xtop (show ((nI (i)) + (nI 2)) = nI (i + 2) from nI_add i 2) ?_
    refine va_sld hx hb hXs hbl hbA hS (i := nI (i + 2)) (vp_in_nI (n := i + 2) (by omega) (by omega)) dL_law_307 ?_
    refine xtop (show (xs (nI (i + 2)).toNatClampNeg) = xs (i + 2) from by rw [nI_clamp (n := i + 2) (by omega)]) ?_
    refine lv_aload_n hx hb dL_law_308 rfl (lv_at hl 5 rfl) ?_
    refine lv_iload hx hb dL_law_309 (lv_at hl 1 rfl) ?_
    refine lv_iconst (v := nI 3) hx hb dL_law_311 (by decide) ?_
    refine lv_iadd hx hb dL_law_312 ?_
    refine xtop (show ((nI (i)) + (nI 3)) = nI (i + 3) from nI_add i 3) ?_
    refine va_sld hx hb hXs hbl hbA hS (i := nI (i + 3)) (vp_in_nI (n := i + 3) (by omega) (by omega)) dL_law_313 ?_
    refine xtop (show (xs (nI (i + 3)).toNatClampNeg) = xs (i + 3) from by rw [nI_clamp (n := i + 3) (by omega)]) ?_
    refine lv_aload_n hx hb dL_law_314 rfl (lv_at hl 5 rfl) ?_
    refine lv_iload hx hb dL_law_315 (lv_at hl 1 rfl) ?_
    refine lv_iconst (v := nI 4) hx hb dL_law_317 (by decide) ?_
    refine lv_iadd hx hb dL_law_318 ?_
    refine xtop (show ((nI (i)) + (nI 4)) = nI (i + 4) from nI_add i 4) ?_
    refine va_sld hx hb hXs hbl hbA hS (i := nI (i + 4)) (vp_in_nI (n := i + 4) (by omega) (by omega)) dL_law_319 ?_
    refine xtop (show (xs (nI (i + 4)).toNatClampNeg) = xs (i + 4) from by rw [nI_clamp (n := i + 4) (by omega)]) ?_
    refine xci (va_runV (As := [.int (xs (i + 1)), .int (xs (i + 2)), .int (xs (i + 3)), .int (xs (i + 4))]) (rest := []) ⟨hx, hb, hml, hown, hts⟩ (c_X5_setSlot l D cA e0 (cM bm) H1 bm g tt (N 0) (N 1) hY1 hYA (xs (i + 1)) (xs (i + 2)) (xs (i + 3)) (xs (i + 4))) ⟨(callB_of 4 hts gi_X5_setSlot rfl rfl rfl (hts _ q_ini_X5) (hts _ q_ml_L_83) hd_X5_setSlot ⟨Nat.le_of_ble_eq_true rfl, Nat.le_of_ble_eq_true rfl⟩), hts _ q_im_X5_setSlot, hts _ q_sel_X5_X5_setSlot⟩ (xpVn hE hS hcM (hY1.main) rfl) rfl rfl hl.1 rfl (lv_room (Nat.le_of_ble_eq_true rfl)) dL_law_320 ⟨(show 24 + 9 * (t + 1) + 0 ≤ 601024 by omega), (show 4951 + 56 * (t + 1) + 0 ≤ 7293033 by omega)⟩) hS hcM (fun r8 H2 locs hQ9 hz8 hk8 hS => ?_)
    refine W.widen (k := 24 + 9 * (t + 1)) (n := 4951 + 56 * (t + 1)) (by omega) (by omega) ?_
    have hX2 := hX1.mod hAx hk8
    have hO2 := hO1.kept (hk8 _ hO1.lt hoM)
    rcases hQ9 with ⟨m1, hr2, g2, hY2, he2⟩ | ⟨m1, hY2⟩ | ⟨m1, m2, hY2⟩
    · exact (hc.2 m1.2).elim
    · exact (m1 hc.1).elim
    · refine lv_istore (lv' := [(6, .int (r8)), (5, .int (nI 2)), (4, .int (nI (i))), (3, .ref (o)), (2, .ref (bm 0)), (1, .ref (ad 0 0)), (0, .ref (b))]) hx hb dL_law_323 hl (by decide) rfl (fun ls hl => ?_)
      refine lv_aload_n hx hb dL_law_325 rfl (lv_at hl 4 rfl) ?_
      refine xcRi (va_runV (As := []) (rest := []) ⟨hx, hb, hml, hown, hts⟩ (c_X5_thrown l D cA e0 (lwA s) _ bm _ _ _ _ hY2) ⟨(callB_of 0 hts gi_X5_thrown rfl rfl rfl (hts _ q_ini_X5) (hts _ q_ml_L_72) hd_X5_thrown ⟨Nat.le_of_ble_eq_true rfl, Nat.le_of_ble_eq_true rfl⟩), hts _ q_im_X5_thrown, hts _ q_sel_X5_X5_thrown⟩ (xpV hE hS (hY2.main) rfl) rfl rfl hl.1 rfl (lv_room (Nat.le_of_ble_eq_true rfl)) dL_law_326 ⟨(show 24 + 9 * (t + 1) + 0 ≤ 601024 by omega), (show 4951 + 56 * (t + 1) + 0 ≤ 7293033 by omega)⟩) ?_
      refine xtop (show _ = nI 2 from thG_20 g 2) ?_
      refine lv_iload hx hb dL_law_329 (lv_at hl 1 rfl) ?_
      refine lv_icmp_eq (tgt := 336) hx hb dL_law_331 (by decide) (fun _ => ?_) (fun hno => absurd (rfl) hno)
      refine lv_iload hx hb dL_law_336 (lv_at hl 1 rfl) ?_
      refine lv_if_ne (tgt := 353) hx hb dL_law_338 (by decide) (fun _ => ?_) (fun hno => absurd hno ((by decide)))
      refine lv_goto (tgt := 1185) hx hb dL_law_353 (by decide) ?_
      exact K _ _ _ _ _ _ _ (LI_eqY hLI hX2 (fun _ _ _ _ => rfl) hY2 (fun t9 a9 _ => thG_t g 2 a9) ⟨_, hO2⟩) hS (lv_sub hl [2, 3, 4, 5, 6] rfl)
set_option maxHeartbeats 4000000 in
set_option maxRecDepth 100000 in
/-- the law's call 3: planPrice -/
theorem law_c_3 {p : Program} {l : Launch} {e : Env} {s : State} {m : MethodId} {below : List Frame} {meth : Method} {c : Code} {b L : Nat} {xs : Nat → Int32} {D : va_G} {cA : Nat → ClassId} {e0 x0 o : Nat} {bm : Nat → Nat} (C : lwC p l s m meth c b L xs D cA e0 o bm) {i t : Nat} (hi : i + 5 ≤ L) (ht : t < 512) {ad : Nat → Nat → Nat} {g : Nat → Nat → Int32} {tt : Nat → Int64} {N : Nat → Nat} {H : Heap} {locs : List Loc} {ls : Array Slot} (hLI : LI D cA e0 s.heap.size x0 o bm ad g tt N H) (hS : va_S (lwA s) s.heap H locs) (hl : lv_has ls 9 [(4, .int (nI (i))), (3, .ref o), (2, .ref (bm 0)), (1, .ref x0), (0, .ref b)]) (K : lwK p l e s m below meth c b D cA e0 x0 o bm i t) : W p l e room_1 s m #[Value.ref b] below meth c H locs (24 + 9 * t) (4951 + 56 * t) (lw_Z below #[Value.ref b] s) (F0 m 356 ls []) := by
  obtain ⟨hx, hb, hr, hml, hown, hE, hNc, hXs, hbl, hlocks, hLb, hbm, hinj, ho, hob, hl9⟩ := C
  have hts := hE.1.all #[Value.ref b]
  have hK := hE.2.1
  obtain ⟨hX, hAx, hY, hI, hW, hdf, hN2, hdy, hP, hC, ⟨f0, hO⟩, rfl⟩ := id hLI
  have hn8 := hAx.n8
  have hbA : ¬ lwA s b := Nat.not_le.mpr hbl
  have hF : ∀ q, cF s.heap.size o bm q → cO s.heap.size o bm q := fun q h => Or.inl h
  have hFF : ∀ q, cF s.heap.size o bm q → lwA s q := fun q h => h.1
  have hFo : ∀ q, cO s.heap.size o bm q → lwA s q := fun q h => h.elim (fun z => z.1) (fun z => by rw [z]; exact ho)
  have hoF : ¬ cF s.heap.size o bm o := fun z => z.2.1 rfl
  have hcM : ∀ q, cM bm q → lwA s q := fun q ⟨j, hj, z⟩ => by rw [z]; exact hbm j hj
  have hbO : ∀ j, j < 14 → ¬ cO s.heap.size o bm (bm j) := fun j hj z => z.elim (fun z => z.2.2 j hj rfl) (fun z => hob j hj z.symm)
  have hoM : ¬ cM bm o := fun ⟨j, hj, z⟩ => hob j hj z
  have hYA : yA (cM bm) bm (N 0) (N 1) := ⟨hinj, fun j hj => ⟨j, hj, rfl⟩, hn8, hAx.2.2.2.2.2.2.2.1⟩
  have hAn : ∀ q, H.size ≤ q → cF s.heap.size o bm q := fun q hq => ⟨Nat.le_trans hS.1 hq, fun z => by have := hO.lt; omega, fun j hj z => by have := (hY j hj).lt; omega⟩
  refine lv_aload_n hx hb dL_law_356 rfl (lv_at hl 3 rfl) ?_
  refine lv_aload_n hx hb dL_law_357 rfl (lv_at hl 4 rfl) ?_
  refine lv_iload hx hb dL_law_358 (lv_at hl 0 rfl) ?_
  refine lv_iconst (v := nI 1) hx hb dL_law_360 (by decide) ?_
  refine lv_iadd hx hb dL_law_361 ?_
  refine xtop (show ((nI (i)) + (nI 1)) = nI (i + 1) from nI_add i 1) ?_
  refine va_sld hx hb hXs hbl hbA hS (i := nI (i + 1)) (vp_in_nI (n := i + 1) (by omega) (by omega)) dL_law_362 ?_
  refine xtop (show (xs (nI (i + 1)).toNatClampNeg) = xs (i + 1) from by rw [nI_clamp (n := i + 1) (by omega)]) ?_
  refine lv_aload_n hx hb dL_law_363 rfl (lv_at hl 4 rfl) ?_
  refine lv_iload hx hb dL_law_364 (lv_at hl 0 rfl) ?_
  refine lv_iconst (v := nI 2) hx hb dL_law_366 (by decide) ?_
  refine lv_iadd hx hb dL_law_367 ?_
  refine xtop (show ((nI (i)) + (nI 2)) = nI (i + 2) from nI_add i 2) ?_
  refine va_sld hx hb hXs hbl hbA hS (i := nI (i + 2)) (vp_in_nI (n := i + 2) (by omega) (by omega)) dL_law_368 ?_
  refine xtop (show (xs (nI (i + 2)).toNatClampNeg) = xs (i + 2) from by rw [nI_clamp (n := i + 2) (by omega)]) ?_
  refine lv_aload_n hx hb dL_law_369 rfl (lv_at hl 4 rfl) ?_
  refine lv_iload hx hb dL_law_370 (lv_at hl 0 rfl) ?_
  refine lv_iconst (v := nI 3) hx hb dL_law_372 (by decide) ?_
  refine lv_iadd hx hb dL_law_373 ?_
  refine xtop (show ((nI (i)) + (nI 3)) = nI (i + 3) from nI_add i 3) ?_
  refine va_sld hx hb hXs hbl hbA hS (i := nI (i + 3)) (vp_in_nI (n := i + 3) (by omega) (by omega)) dL_law_374 ?_
  refine xtop (show (xs (nI (i + 3)).toNatClampNeg) = xs (i + 3) from by rw [nI_clamp (n := i + 3) (by omega)]) ?_
  refine lv_aload_n hx hb dL_law_375 rfl (lv_at hl 4 rfl) ?_
  refine lv_iload hx hb dL_law_376 (lv_at hl 0 rfl) ?_
  refine lv_iconst (v := nI 4) hx hb dL_law_378 (by decide) ?_
  refine lv_iadd hx hb dL_law_379 ?_
  refine xtop (show ((nI (i)) + (nI 4)) = nI (i + 4) from nI_add i 4) ?_
  refine va_sld hx hb hXs hbl hbA hS (i := nI (i + 4)) (vp_in_nI (n := i + 4) (by omega) (by omega)) dL_law_380 ?_
  refine xtop (show (xs (nI (i + 4)).toNatClampNeg) = xs (i + 4) from by rw [nI_clamp (n := i + 4) (by omega)]) ?_
  refine lv_aload_n hx hb dL_law_381 rfl (lv_at hl 1 rfl) ?_
  refine xci (vx_runSW (As := [.ref (ad 0 0), .int (xs (i + 1)), .int (xs (i + 2)), .int (xs (i + 3)), .int (xs (i + 4)), .ref (o)]) (rest := []) ⟨hx, hb, hml, hown, hts⟩ (c_L_planPrice l D cA e0 (cO s.heap.size o bm) H ad g tt N hX (xs (i + 1)) (xs (i + 2)) (xs (i + 3)) (xs (i + 4)) (cF s.heap.size o bm) hF hAx hAn o f0 hO (Or.inr rfl) hoF hl9) (callSW_of 6 hts gi_L_planPrice rfl rfl rfl (hts _ q_ini_L) (hts _ q_ml_L_84) (hts _ q_st_L_planPrice) hd_L_planPrice ⟨Nat.le_of_ble_eq_true rfl, Nat.le_of_ble_eq_true rfl⟩) (xpSw hE hNc hS hFo) rfl rfl hl.1 rfl (lv_room (Nat.le_of_ble_eq_true rfl)) dL_law_382 ⟨(show 24 + 9 * t + 4 ≤ 601024 by omega), (show 4951 + 56 * t + 37 ≤ 7293033 by omega)⟩) hS hFo (fun r9 H1 locs hP9 hz9 hk9 hS => ?_)
  refine W.widen (k := 24 + 9 * (t + 1)) (n := 4951 + 56 * (t + 1)) (by omega) (by omega) ?_
  have hY1 : yW D cA bm g tt (N 0) (N 1) H1 := hY.keep (fun j hj => hk9 _ (hY j hj).lt (hbO j hj))
  rcases hP9 with ⟨hr9, f1, hO1, p1, p2, ⟨p3, hf1, hX1⟩ | ⟨p3, hf1, q2, d2, kk, hX1, hA1⟩⟩ | ⟨hr9, hc, hX1, hO1⟩ | ⟨hr9, hc, hX1, hO1⟩ | ⟨hr9, hc, hX1, hO1⟩
  · rw [hr9]
    refine lv_istore (lv' := [(5, .int (nI 0)), (4, .int (nI (i))), (3, .ref (o)), (2, .ref (bm 0)), (1, .ref (ad 0 0)), (0, .ref (b))]) hx hb dL_law_385 hl (by decide) rfl (fun ls hl => ?_)
    refine lv_aload_n hx hb dL_law_387 rfl (lv_at hl 3 rfl) ?_
    refine lv_aload_n hx hb dL_law_388 rfl (lv_at hl 5 rfl) ?_
    refine lv_iload hx hb dL_law_389 (lv_at hl 1 rfl) ?_
    refine lv_iconst (v := nI 1) hx hb dL_law_391 (by decide) ?_
    refine lv_iadd hx hb dL_law_392 ?_
    refine xtop (show ((nI (i)) + (nI 1)) = nI (i + 1) from nI_add i 1) ?_
    refine va_sld hx hb hXs hbl hbA hS (i := nI (i + 1)) (vp_in_nI (n := i + 1) (by omega) (by omega)) dL_law_393 ?_
    refine xtop (show (xs (nI (i + 1)).toNatClampNeg) = xs (i + 1) from by rw [nI_clamp (n := i + 1) (by omega)]) ?_
    refine lv_aload_n hx hb dL_law_394 rfl (lv_at hl 5 rfl) ?_
    refine lv_iload hx hb dL_law_395 (lv_at hl 1 rfl) ?_
    refine lv_iconst (v := nI 2) hx hb dL_law_397 (by decide) ?_
    refine lv_iadd hx hb dL_law_398 ?_
    refine xtop (show ((nI (i)) + (nI 2)) = nI (i + 2) from nI_add i 2) ?_
    refine va_sld hx hb hXs hbl hbA hS (i := nI (i + 2)) (vp_in_nI (n := i + 2) (by omega) (by omega)) dL_law_399 ?_
    refine xtop (show (xs (nI (i + 2)).toNatClampNeg) = xs (i + 2) from by rw [nI_clamp (n := i + 2) (by omega)]) ?_
    refine lv_aload_n hx hb dL_law_400 rfl (lv_at hl 5 rfl) ?_
    refine lv_iload hx hb dL_law_401 (lv_at hl 1 rfl) ?_
    refine lv_iconst (v := nI 3) hx hb dL_law_403 (by decide) ?_
    refine lv_iadd hx hb dL_law_404 ?_
    refine xtop (show ((nI (i)) + (nI 3)) = nI (i + 3) from nI_add i 3) ?_
    refine va_sld hx hb hXs hbl hbA hS (i := nI (i + 3)) (vp_in_nI (n := i + 3) (by omega) (by omega)) dL_law_405 ?_
    refine xtop (show (xs (nI (i + 3)).toNatClampNeg) = xs (i + 3) from by rw [nI_clamp (n := i + 3) (by omega)]) ?_
    refine lv_aload_n hx hb dL_law_406 rfl (lv_at hl 5 rfl) ?_
    refine lv_iload hx hb dL_law_407 (lv_at hl 1 rfl) ?_
    refine lv_iconst (v := nI 4) hx hb dL_law_409 (by decide) ?_
    refine lv_iadd hx hb dL_law_410 ?_
    refine xtop (show ((nI (i)) + (nI 4)) = nI (i + 4) from nI_add i 4) ?_
    refine va_sld hx hb hXs hbl hbA hS (i := nI (i + 4)) (vp_in_nI (n := i + 4) (by omega) (by omega)) dL_law_411 ?_
    refine xtop (show (xs (nI (i + 4)).toNatClampNeg) = xs (i + 4) from by rw [nI_clamp (n := i + 4) (by omega)]) ?_
    refine xci (va_runV (As := [.int (xs (i + 1)), .int (xs (i + 2)), .int (xs (i + 3)), .int (xs (i + 4))]) (rest := []) ⟨hx, hb, hml, hown, hts⟩ (c_X5_planPrice l D cA e0 (cM bm) H1 bm g tt (N 0) (N 1) hY1 hYA (xs (i + 1)) (xs (i + 2)) (xs (i + 3)) (xs (i + 4))) ⟨(callB_of 4 hts gi_X5_planPrice rfl rfl rfl (hts _ q_ini_X5) (hts _ q_ml_L_86) hd_X5_planPrice ⟨Nat.le_of_ble_eq_true rfl, Nat.le_of_ble_eq_true rfl⟩), hts _ q_im_X5_planPrice, hts _ q_sel_X5_X5_planPrice⟩ (xpVn hE hS hcM (hY1.main) rfl) rfl rfl hl.1 rfl (lv_room (Nat.le_of_ble_eq_true rfl)) dL_law_412 ⟨(show 24 + 9 * (t + 1) + 0 ≤ 601024 by omega), (show 4951 + 56 * (t + 1) + 0 ≤ 7293033 by omega)⟩) hS hcM (fun r8 H2 locs hQ9 hz8 hk8 hS => ?_)
    refine W.widen (k := 24 + 9 * (t + 1)) (n := 4951 + 56 * (t + 1)) (by omega) (by omega) ?_
    have hX2 := hX1.mod hAx hk8
    have hO2 := hO1.kept (hk8 _ hO1.lt hoM)
    rcases hQ9 with ⟨m1, m2, ⟨m3, hr2, g2, hY2, he2⟩ | ⟨m3, m4, hr2, g2, hY2, he2, h21⟩⟩ | ⟨m1, hY2⟩ | ⟨m1, m2, hY2⟩ | ⟨m1, m2, m3, hY2⟩
    · have hcmp : f1 0 = r8.toInt64 := by rw [hf1, hr2]
      refine lv_istore (lv' := [(6, .int (r8)), (5, .int (nI 0)), (4, .int (nI (i))), (3, .ref (o)), (2, .ref (bm 0)), (1, .ref (ad 0 0)), (0, .ref (b))]) hx hb dL_law_415 hl (by decide) rfl (fun ls hl => ?_)
      refine lv_aload_n hx hb dL_law_417 rfl (lv_at hl 4 rfl) ?_
      refine xcRi (va_runV (As := []) (rest := []) ⟨hx, hb, hml, hown, hts⟩ (c_X5_thrown l D cA e0 (lwA s) _ bm _ _ _ _ hY2) ⟨(callB_of 0 hts gi_X5_thrown rfl rfl rfl (hts _ q_ini_X5) (hts _ q_ml_L_72) hd_X5_thrown ⟨Nat.le_of_ble_eq_true rfl, Nat.le_of_ble_eq_true rfl⟩), hts _ q_im_X5_thrown, hts _ q_sel_X5_X5_thrown⟩ (xpV hE hS (hY2.main) rfl) rfl rfl hl.1 rfl (lv_room (Nat.le_of_ble_eq_true rfl)) dL_law_418 ⟨(show 24 + 9 * (t + 1) + 0 ≤ 601024 by omega), (show 4951 + 56 * (t + 1) + 0 ≤ 7293033 by omega)⟩) ?_
      refine xtop (show _ = nI 0 from he2.2) ?_
      refine lv_iload hx hb dL_law_421 (lv_at hl 1 rfl) ?_
      refine lv_icmp_eq (tgt := 428) hx hb dL_law_423 (by decide) (fun _ => ?_) (fun hno => absurd (rfl) hno)
      refine lv_iload hx hb dL_law_428 (lv_at hl 1 rfl) ?_
      refine lv_if_ne (tgt := 445) hx hb dL_law_430 (by decide) (fun hno => absurd hno (fun z => z rfl)) (fun _ => ?_)
      refine lv_aload_n hx hb dL_law_433 rfl (lv_at hl 3 rfl) ?_
      refine lv_iconst (v := nI 0) hx hb dL_law_434 (by decide) ?_
      refine va_lald hx hb hK (xP1 (hO2)) 0 1 rfl rfl (i := nI 0) (vp_in_nI (n := 0) (by omega) (by omega)) dL_law_435 ?_
      refine xtopL (show ((fun z => f1 (z)) (nI 0).toNatClampNeg) = f1 (0) from by rw [nI_clamp (n := 0) (by omega)]) ?_
      refine lv_iload hx hb dL_law_436 (lv_at hl 0 rfl) ?_
      refine lv_i2l (v := r8.toInt64) hx hb dL_law_438 rfl ?_
      refine W.lcmp hx hb dL_law_439 ?_
      refine xtop (show lg_cmp (f1 (0)) (r8.toInt64) = nI 0 from by rw [hcmp]; exact lg_self _) ?_
      refine lv_if_eq (tgt := 445) hx hb dL_law_440 (by decide) (fun _ => ?_) (fun hno => absurd (rfl) hno)
      refine lv_goto (tgt := 1185) hx hb dL_law_445 (by decide) ?_
      exact K _ _ _ _ _ _ _ (LI_p0 hLI (okS_lt p1.1 hn8) hX2 hY2 he2 ⟨_, hO2⟩) hS (lv_sub hl [2, 3, 4, 5, 6] rfl)
    · exact (m3 p3).elim
    · exact (m1 p1.1).elim
    · exact (m2 p1.2).elim
    · exact (m3 p2).elim
  · rw [hr9]
    refine lv_istore (lv' := [(5, .int (nI 0)), (4, .int (nI (i))), (3, .ref (o)), (2, .ref (bm 0)), (1, .ref (ad 0 0)), (0, .ref (b))]) hx hb dL_law_385 hl (by decide) rfl (fun ls hl => ?_)
    refine lv_aload_n hx hb dL_law_387 rfl (lv_at hl 3 rfl) ?_
    refine lv_aload_n hx hb dL_law_388 rfl (lv_at hl 5 rfl) ?_
    refine lv_iload hx hb dL_law_389 (lv_at hl 1 rfl) ?_
    refine lv_iconst (v := nI 1) hx hb dL_law_391 (by decide) ?_
    refine lv_iadd hx hb dL_law_392 ?_
    refine xtop (show ((nI (i)) + (nI 1)) = nI (i + 1) from nI_add i 1) ?_
    refine va_sld hx hb hXs hbl hbA hS (i := nI (i + 1)) (vp_in_nI (n := i + 1) (by omega) (by omega)) dL_law_393 ?_
    refine xtop (show (xs (nI (i + 1)).toNatClampNeg) = xs (i + 1) from by rw [nI_clamp (n := i + 1) (by omega)]) ?_
    refine lv_aload_n hx hb dL_law_394 rfl (lv_at hl 5 rfl) ?_
    refine lv_iload hx hb dL_law_395 (lv_at hl 1 rfl) ?_
    refine lv_iconst (v := nI 2) hx hb dL_law_397 (by decide) ?_
    refine lv_iadd hx hb dL_law_398 ?_
    refine xtop (show ((nI (i)) + (nI 2)) = nI (i + 2) from nI_add i 2) ?_
    refine va_sld hx hb hXs hbl hbA hS (i := nI (i + 2)) (vp_in_nI (n := i + 2) (by omega) (by omega)) dL_law_399 ?_
    refine xtop (show (xs (nI (i + 2)).toNatClampNeg) = xs (i + 2) from by rw [nI_clamp (n := i + 2) (by omega)]) ?_
    refine lv_aload_n hx hb dL_law_400 rfl (lv_at hl 5 rfl) ?_
    refine lv_iload hx hb dL_law_401 (lv_at hl 1 rfl) ?_
    refine lv_iconst (v := nI 3) hx hb dL_law_403 (by decide) ?_
    refine lv_iadd hx hb dL_law_404 ?_
    refine xtop (show ((nI (i)) + (nI 3)) = nI (i + 3) from nI_add i 3) ?_
    refine va_sld hx hb hXs hbl hbA hS (i := nI (i + 3)) (vp_in_nI (n := i + 3) (by omega) (by omega)) dL_law_405 ?_
    refine xtop (show (xs (nI (i + 3)).toNatClampNeg) = xs (i + 3) from by rw [nI_clamp (n := i + 3) (by omega)]) ?_
    refine lv_aload_n hx hb dL_law_406 rfl (lv_at hl 5 rfl) ?_
    refine lv_iload hx hb dL_law_407 (lv_at hl 1 rfl) ?_
    refine lv_iconst (v := nI 4) hx hb dL_law_409 (by decide) ?_
    refine lv_iadd hx hb dL_law_410 ?_
    refine xtop (show ((nI (i)) + (nI 4)) = nI (i + 4) from nI_add i 4) ?_
    refine va_sld hx hb hXs hbl hbA hS (i := nI (i + 4)) (vp_in_nI (n := i + 4) (by omega) (by omega)) dL_law_411 ?_
    refine xtop (show (xs (nI (i + 4)).toNatClampNeg) = xs (i + 4) from by rw [nI_clamp (n := i + 4) (by omega)]) ?_
    refine xci (va_runV (As := [.int (xs (i + 1)), .int (xs (i + 2)), .int (xs (i + 3)), .int (xs (i + 4))]) (rest := []) ⟨hx, hb, hml, hown, hts⟩ (c_X5_planPrice l D cA e0 (cM bm) H1 bm g tt (N 0) (N 1) hY1 hYA (xs (i + 1)) (xs (i + 2)) (xs (i + 3)) (xs (i + 4))) ⟨(callB_of 4 hts gi_X5_planPrice rfl rfl rfl (hts _ q_ini_X5) (hts _ q_ml_L_86) hd_X5_planPrice ⟨Nat.le_of_ble_eq_true rfl, Nat.le_of_ble_eq_true rfl⟩), hts _ q_im_X5_planPrice, hts _ q_sel_X5_X5_planPrice⟩ (xpVn hE hS hcM (hY1.main) rfl) rfl rfl hl.1 rfl (lv_room (Nat.le_of_ble_eq_true rfl)) dL_law_412 ⟨(show 24 + 9 * (t + 1) + 0 ≤ 601024 by omega), (show 4951 + 56 * (t + 1) + 0 ≤ 7293033 by omega)⟩) hS hcM (fun r8 H2 locs hQ9 hz8 hk8 hS => ?_)
    refine W.widen (k := 24 + 9 * (t + 1)) (n := 4951 + 56 * (t + 1)) (by omega) (by omega) ?_
    have hX2 := hX1.mod hA1 hk8
    have hO2 := hO1.kept (hk8 _ hO1.lt hoM)
    rcases hQ9 with ⟨m1, m2, ⟨m3, hr2, g2, hY2, he2⟩ | ⟨m3, m4, hr2, g2, hY2, he2, h21⟩⟩ | ⟨m1, hY2⟩ | ⟨m1, m2, hY2⟩ | ⟨m1, m2, m3, hY2⟩
    · exact (p3 m3).elim
    · have hcmp : f1 0 = r8.toInt64 := by rw [hf1, hr2]
      refine lv_istore (lv' := [(6, .int (r8)), (5, .int (nI 0)), (4, .int (nI (i))), (3, .ref (o)), (2, .ref (bm 0)), (1, .ref (ad 0 0)), (0, .ref (b))]) hx hb dL_law_415 hl (by decide) rfl (fun ls hl => ?_)
      refine lv_aload_n hx hb dL_law_417 rfl (lv_at hl 4 rfl) ?_
      refine xcRi (va_runV (As := []) (rest := []) ⟨hx, hb, hml, hown, hts⟩ (c_X5_thrown l D cA e0 (lwA s) _ bm _ _ _ _ hY2) ⟨(callB_of 0 hts gi_X5_thrown rfl rfl rfl (hts _ q_ini_X5) (hts _ q_ml_L_72) hd_X5_thrown ⟨Nat.le_of_ble_eq_true rfl, Nat.le_of_ble_eq_true rfl⟩), hts _ q_im_X5_thrown, hts _ q_sel_X5_X5_thrown⟩ (xpV hE hS (hY2.main) rfl) rfl rfl hl.1 rfl (lv_room (Nat.le_of_ble_eq_true rfl)) dL_law_418 ⟨(show 24 + 9 * (t + 1) + 0 ≤ 601024 by omega), (show 4951 + 56 * (t + 1) + 0 ≤ 7293033 by omega)⟩) ?_
      refine xtop (show _ = nI 0 from he2.2) ?_
      refine lv_iload hx hb dL_law_421 (lv_at hl 1 rfl) ?_
      refine lv_icmp_eq (tgt := 428) hx hb dL_law_423 (by decide) (fun _ => ?_) (fun hno => absurd (rfl) hno)
      refine lv_iload hx hb dL_law_428 (lv_at hl 1 rfl) ?_
      refine lv_if_ne (tgt := 445) hx hb dL_law_430 (by decide) (fun hno => absurd hno (fun z => z rfl)) (fun _ => ?_)
      refine lv_aload_n hx hb dL_law_433 rfl (lv_at hl 3 rfl) ?_
      refine lv_iconst (v := nI 0) hx hb dL_law_434 (by decide) ?_
      refine va_lald hx hb hK (xP1 (hO2)) 0 1 rfl rfl (i := nI 0) (vp_in_nI (n := 0) (by omega) (by omega)) dL_law_435 ?_
      refine xtopL (show ((fun z => f1 (z)) (nI 0).toNatClampNeg) = f1 (0) from by rw [nI_clamp (n := 0) (by omega)]) ?_
      refine lv_iload hx hb dL_law_436 (lv_at hl 0 rfl) ?_
      refine lv_i2l (v := r8.toInt64) hx hb dL_law_438 rfl ?_
      refine W.lcmp hx hb dL_law_439 ?_
      refine xtop (show lg_cmp (f1 (0)) (r8.toInt64) = nI 0 from by rw [hcmp]; exact lg_self _) ?_
      refine lv_if_eq (tgt := 445) hx hb dL_law_440 (by decide) (fun _ => ?_) (fun hno => absurd (rfl) hno)
      refine lv_goto (tgt := 1185) hx hb dL_law_445 (by decide) ?_
      exact K _ _ _ _ _ _ _ (LI_p1 hLI (okS_lt p1.1 hn8) hX2 hA1 hY2 he2 h21 ⟨_, hO2⟩) hS (lv_sub hl [2, 3, 4, 5, 6] rfl)
    · exact (m1 p1.1).elim
    · exact (m2 p1.2).elim
    · exact (m3 p2).elim
  · rw [hr9]
    refine lv_istore (lv' := [(5, .int (nI 1)), (4, .int (nI (i))), (3, .ref (o)), (2, .ref (bm 0)), (1, .ref (ad 0 0)), (0, .ref (b))]) hx hb dL_law_385 hl (by decide) rfl (fun ls hl => ?_)
    refine lv_aload_n hx hb dL_law_387 rfl (lv_at hl 3 rfl) ?_
    refine lv_aload_n hx hb dL_law_388 rfl (lv_at hl 5 rfl) ?_
    refine lv_iload hx hb dL_law_389 (lv_at hl 1 rfl) ?_
    refine lv_iconst (v := nI 1) hx hb dL_law_391 (by decide) ?_
    refine lv_iadd hx hb dL_law_392 ?_
    refine xtop (show ((nI (i)) + (nI 1)) = nI (i + 1) from nI_add i 1) ?_
    refine va_sld hx hb hXs hbl hbA hS (i := nI (i + 1)) (vp_in_nI (n := i + 1) (by omega) (by omega)) dL_law_393 ?_
    refine xtop (show (xs (nI (i + 1)).toNatClampNeg) = xs (i + 1) from by rw [nI_clamp (n := i + 1) (by omega)]) ?_
    refine lv_aload_n hx hb dL_law_394 rfl (lv_at hl 5 rfl) ?_
    refine lv_iload hx hb dL_law_395 (lv_at hl 1 rfl) ?_
    refine lv_iconst (v := nI 2) hx hb dL_law_397 (by decide) ?_
    refine lv_iadd hx hb dL_law_398 ?_
    refine xtop (show ((nI (i)) + (nI 2)) = nI (i + 2) from nI_add i 2) ?_
    refine va_sld hx hb hXs hbl hbA hS (i := nI (i + 2)) (vp_in_nI (n := i + 2) (by omega) (by omega)) dL_law_399 ?_
    refine xtop (show (xs (nI (i + 2)).toNatClampNeg) = xs (i + 2) from by rw [nI_clamp (n := i + 2) (by omega)]) ?_
    refine lv_aload_n hx hb dL_law_400 rfl (lv_at hl 5 rfl) ?_
    refine lv_iload hx hb dL_law_401 (lv_at hl 1 rfl) ?_
    refine lv_iconst (v := nI 3) hx hb dL_law_403 (by decide) ?_
    refine lv_iadd hx hb dL_law_404 ?_
    refine xtop (show ((nI (i)) + (nI 3)) = nI (i + 3) from nI_add i 3) ?_
    refine va_sld hx hb hXs hbl hbA hS (i := nI (i + 3)) (vp_in_nI (n := i + 3) (by omega) (by omega)) dL_law_405 ?_
    refine xtop (show (xs (nI (i + 3)).toNatClampNeg) = xs (i + 3) from by rw [nI_clamp (n := i + 3) (by omega)]) ?_
    refine lv_aload_n hx hb dL_law_406 rfl (lv_at hl 5 rfl) ?_
    refine lv_iload hx hb dL_law_407 (lv_at hl 1 rfl) ?_
    refine lv_iconst (v := nI 4) hx hb dL_law_409 (by decide) ?_
    refine lv_iadd hx hb dL_law_410 ?_
    refine xtop (show ((nI (i)) + (nI 4)) = nI (i + 4) from nI_add i 4) ?_
    refine va_sld hx hb hXs hbl hbA hS (i := nI (i + 4)) (vp_in_nI (n := i + 4) (by omega) (by omega)) dL_law_411 ?_
    refine xtop (show (xs (nI (i + 4)).toNatClampNeg) = xs (i + 4) from by rw [nI_clamp (n := i + 4) (by omega)]) ?_
    refine xci (va_runV (As := [.int (xs (i + 1)), .int (xs (i + 2)), .int (xs (i + 3)), .int (xs (i + 4))]) (rest := []) ⟨hx, hb, hml, hown, hts⟩ (c_X5_planPrice l D cA e0 (cM bm) H1 bm g tt (N 0) (N 1) hY1 hYA (xs (i + 1)) (xs (i + 2)) (xs (i + 3)) (xs (i + 4))) ⟨(callB_of 4 hts gi_X5_planPrice rfl rfl rfl (hts _ q_ini_X5) (hts _ q_ml_L_86) hd_X5_planPrice ⟨Nat.le_of_ble_eq_true rfl, Nat.le_of_ble_eq_true rfl⟩), hts _ q_im_X5_planPrice, hts _ q_sel_X5_X5_planPrice⟩ (xpVn hE hS hcM (hY1.main) rfl) rfl rfl hl.1 rfl (lv_room (Nat.le_of_ble_eq_true rfl)) dL_law_412 ⟨(show 24 + 9 * (t + 1) + 0 ≤ 601024 by omega), (show 4951 + 56 * (t + 1) + 0 ≤ 7293033 by omega)⟩) hS hcM (fun r8 H2 locs hQ9 hz8 hk8 hS => ?_)
    refine W.widen (k := 24 + 9 * (t + 1)) (n := 4951 + 56 * (t + 1)) (by omega) (by omega) ?_
    have hX2 := hX1.mod hAx hk8
    have hO2 := hO1.kept (hk8 _ hO1.lt hoM)
    rcases hQ9 with ⟨m1, m2, ⟨m3, hr2, g2, hY2, he2⟩ | ⟨m3, m4, hr2, g2, hY2, he2, h21⟩⟩ | ⟨m1, hY2⟩ | ⟨m1, m2, hY2⟩ | ⟨m1, m2, m3, hY2⟩
    · exact (hc m1).elim
    · exact (hc m1).elim
    · refine lv_istore (lv' := [(6, .int (r8)), (5, .int (nI 1)), (4, .int (nI (i))), (3, .ref (o)), (2, .ref (bm 0)), (1, .ref (ad 0 0)), (0, .ref (b))]) hx hb dL_law_415 hl (by decide) rfl (fun ls hl => ?_)
      refine lv_aload_n hx hb dL_law_417 rfl (lv_at hl 4 rfl) ?_
      refine xcRi (va_runV (As := []) (rest := []) ⟨hx, hb, hml, hown, hts⟩ (c_X5_thrown l D cA e0 (lwA s) _ bm _ _ _ _ hY2) ⟨(callB_of 0 hts gi_X5_thrown rfl rfl rfl (hts _ q_ini_X5) (hts _ q_ml_L_72) hd_X5_thrown ⟨Nat.le_of_ble_eq_true rfl, Nat.le_of_ble_eq_true rfl⟩), hts _ q_im_X5_thrown, hts _ q_sel_X5_X5_thrown⟩ (xpV hE hS (hY2.main) rfl) rfl rfl hl.1 rfl (lv_room (Nat.le_of_ble_eq_true rfl)) dL_law_418 ⟨(show 24 + 9 * (t + 1) + 0 ≤ 601024 by omega), (show 4951 + 56 * (t + 1) + 0 ≤ 7293033 by omega)⟩) ?_
      refine xtop (show _ = nI 1 from thG_20 g 1) ?_
      refine lv_iload hx hb dL_law_421 (lv_at hl 1 rfl) ?_
      refine lv_icmp_eq (tgt := 428) hx hb dL_law_423 (by decide) (fun _ => ?_) (fun hno => absurd (rfl) hno)
      refine lv_iload hx hb dL_law_428 (lv_at hl 1 rfl) ?_
      refine lv_if_ne (tgt := 445) hx hb dL_law_430 (by decide) (fun _ => ?_) (fun hno => absurd hno ((by decide)))
      refine lv_goto (tgt := 1185) hx hb dL_law_445 (by decide) ?_
      exact K _ _ _ _ _ _ _ (LI_eqY hLI hX2 (fun _ _ _ _ => rfl) hY2 (fun t9 a9 _ => thG_t g 1 a9) ⟨_, hO2⟩) hS (lv_sub hl [2, 3, 4, 5, 6] rfl)
    · exact (hc m1).elim
    · exact (hc m1).elim
  · rw [hr9]
    refine lv_istore (lv' := [(5, .int (nI 2)), (4, .int (nI (i))), (3, .ref (o)), (2, .ref (bm 0)), (1, .ref (ad 0 0)), (0, .ref (b))]) hx hb dL_law_385 hl (by decide) rfl (fun ls hl => ?_)
    refine lv_aload_n hx hb dL_law_387 rfl (lv_at hl 3 rfl) ?_
    refine lv_aload_n hx hb dL_law_388 rfl (lv_at hl 5 rfl) ?_
    refine lv_iload hx hb dL_law_389 (lv_at hl 1 rfl) ?_
    refine lv_iconst (v := nI 1) hx hb dL_law_391 (by decide) ?_
    refine lv_iadd hx hb dL_law_392 ?_
    refine xtop (show ((nI (i)) + (nI 1)) = nI (i + 1) from nI_add i 1) ?_
    refine va_sld hx hb hXs hbl hbA hS (i := nI (i + 1)) (vp_in_nI (n := i + 1) (by omega) (by omega)) dL_law_393 ?_
    refine xtop (show (xs (nI (i + 1)).toNatClampNeg) = xs (i + 1) from by rw [nI_clamp (n := i + 1) (by omega)]) ?_
    refine lv_aload_n hx hb dL_law_394 rfl (lv_at hl 5 rfl) ?_
    refine lv_iload hx hb dL_law_395 (lv_at hl 1 rfl) ?_
    refine lv_iconst (v := nI 2) hx hb dL_law_397 (by decide) ?_
    refine lv_iadd hx hb dL_law_398 ?_
    refine xtop (show ((nI (i)) + (nI 2)) = nI (i + 2) from nI_add i 2) ?_
    refine va_sld hx hb hXs hbl hbA hS (i := nI (i + 2)) (vp_in_nI (n := i + 2) (by omega) (by omega)) dL_law_399 ?_
    refine xtop (show (xs (nI (i + 2)).toNatClampNeg) = xs (i + 2) from by rw [nI_clamp (n := i + 2) (by omega)]) ?_
    refine lv_aload_n hx hb dL_law_400 rfl (lv_at hl 5 rfl) ?_
    refine lv_iload hx hb dL_law_401 (lv_at hl 1 rfl) ?_
    refine lv_iconst (v := nI 3) hx hb dL_law_403 (by decide) ?_
    refine lv_iadd hx hb dL_law_404 ?_
    refine xtop (show ((nI (i)) + (nI 3)) = nI (i + 3) from nI_add i 3) ?_
    refine va_sld hx hb hXs hbl hbA hS (i := nI (i + 3)) (vp_in_nI (n := i + 3) (by omega) (by omega)) dL_law_405 ?_
    refine xtop (show (xs (nI (i + 3)).toNatClampNeg) = xs (i + 3) from by rw [nI_clamp (n := i + 3) (by omega)]) ?_
    refine lv_aload_n hx hb dL_law_406 rfl (lv_at hl 5 rfl) ?_
    refine lv_iload hx hb dL_law_407 (lv_at hl 1 rfl) ?_
    refine lv_iconst (v := nI 4) hx hb dL_law_409 (by decide) ?_
    refine lv_iadd hx hb dL_law_410 ?_
    refine xtop (show ((nI (i)) + (nI 4)) = nI (i + 4) from nI_add i 4) ?_
    refine va_sld hx hb hXs hbl hbA hS (i := nI (i + 4)) (vp_in_nI (n := i + 4) (by omega) (by omega)) dL_law_411 ?_
    refine xtop (show (xs (nI (i + 4)).toNatClampNeg) = xs (i + 4) from by rw [nI_clamp (n := i + 4) (by omega)]) ?_
    refine xci (va_runV (As := [.int (xs (i + 1)), .int (xs (i + 2)), .int (xs (i + 3)), .int (xs (i + 4))]) (rest := []) ⟨hx, hb, hml, hown, hts⟩ (c_X5_planPrice l D cA e0 (cM bm) H1 bm g tt (N 0) (N 1) hY1 hYA (xs (i + 1)) (xs (i + 2)) (xs (i + 3)) (xs (i + 4))) ⟨(callB_of 4 hts gi_X5_planPrice rfl rfl rfl (hts _ q_ini_X5) (hts _ q_ml_L_86) hd_X5_planPrice ⟨Nat.le_of_ble_eq_true rfl, Nat.le_of_ble_eq_true rfl⟩), hts _ q_im_X5_planPrice, hts _ q_sel_X5_X5_planPrice⟩ (xpVn hE hS hcM (hY1.main) rfl) rfl rfl hl.1 rfl (lv_room (Nat.le_of_ble_eq_true rfl)) dL_law_412 ⟨(show 24 + 9 * (t + 1) + 0 ≤ 601024 by omega), (show 4951 + 56 * (t + 1) + 0 ≤ 7293033 by omega)⟩) hS hcM (fun r8 H2 locs hQ9 hz8 hk8 hS => ?_)
    refine W.widen (k := 24 + 9 * (t + 1)) (n := 4951 + 56 * (t + 1)) (by omega) (by omega) ?_
    have hX2 := hX1.mod hAx hk8
    have hO2 := hO1.kept (hk8 _ hO1.lt hoM)
    rcases hQ9 with ⟨m1, m2, ⟨m3, hr2, g2, hY2, he2⟩ | ⟨m3, m4, hr2, g2, hY2, he2, h21⟩⟩ | ⟨m1, hY2⟩ | ⟨m1, m2, hY2⟩ | ⟨m1, m2, m3, hY2⟩
    · exact (hc.2 m2).elim
    · exact (hc.2 m2).elim
    · exact (m1 hc.1).elim
    · refine lv_istore (lv' := [(6, .int (r8)), (5, .int (nI 2)), (4, .int (nI (i))), (3, .ref (o)), (2, .ref (bm 0)), (1, .ref (ad 0 0)), (0, .ref (b))]) hx hb dL_law_415 hl (by decide) rfl (fun ls hl => ?_)
      refine lv_aload_n hx hb dL_law_417 rfl (lv_at hl 4 rfl) ?_
      refine xcRi (va_runV (As := []) (rest := []) ⟨hx, hb, hml, hown, hts⟩ (c_X5_thrown l D cA e0 (lwA s) _ bm _ _ _ _ hY2) ⟨(callB_of 0 hts gi_X5_thrown rfl rfl rfl (hts _ q_ini_X5) (hts _ q_ml_L_72) hd_X5_thrown ⟨Nat.le_of_ble_eq_true rfl, Nat.le_of_ble_eq_true rfl⟩), hts _ q_im_X5_thrown, hts _ q_sel_X5_X5_thrown⟩ (xpV hE hS (hY2.main) rfl) rfl rfl hl.1 rfl (lv_room (Nat.le_of_ble_eq_true rfl)) dL_law_418 ⟨(show 24 + 9 * (t + 1) + 0 ≤ 601024 by omega), (show 4951 + 56 * (t + 1) + 0 ≤ 7293033 by omega)⟩) ?_
      refine xtop (show _ = nI 2 from thG_20 g 2) ?_
      refine lv_iload hx hb dL_law_421 (lv_at hl 1 rfl) ?_
      refine lv_icmp_eq (tgt := 428) hx hb dL_law_423 (by decide) (fun _ => ?_) (fun hno => absurd (rfl) hno)
      refine lv_iload hx hb dL_law_428 (lv_at hl 1 rfl) ?_
      refine lv_if_ne (tgt := 445) hx hb dL_law_430 (by decide) (fun _ => ?_) (fun hno => absurd hno ((by decide)))
      refine lv_goto (tgt := 1185) hx hb dL_law_445 (by decide) ?_
      exact K _ _ _ _ _ _ _ (LI_eqY hLI hX2 (fun _ _ _ _ => rfl) hY2 (fun t9 a9 _ => thG_t g 2 a9) ⟨_, hO2⟩) hS (lv_sub hl [2, 3, 4, 5, 6] rfl)
    · exact (hc.2 m2).elim
  · rw [hr9]
    refine lv_istore (lv' := [(5, .int (nI 3)), (4, .int (nI (i))), (3, .ref (o)), (2, .ref (bm 0)), (1, .ref (ad 0 0)), (0, .ref (b))]) hx hb dL_law_385 hl (by decide) rfl (fun ls hl => ?_)
    refine lv_aload_n hx hb dL_law_387 rfl (lv_at hl 3 rfl) ?_
    refine lv_aload_n hx hb dL_law_388 rfl (lv_at hl 5 rfl) ?_
    refine lv_iload hx hb dL_law_389 (lv_at hl 1 rfl) ?_
    refine lv_iconst (v := nI 1) hx hb dL_law_391 (by decide) ?_
    refine lv_iadd hx hb dL_law_392 ?_
    refine xtop (show ((nI (i)) + (nI 1)) = nI (i + 1) from nI_add i 1) ?_
    refine va_sld hx hb hXs hbl hbA hS (i := nI (i + 1)) (vp_in_nI (n := i + 1) (by omega) (by omega)) dL_law_393 ?_
    refine xtop (show (xs (nI (i + 1)).toNatClampNeg) = xs (i + 1) from by rw [nI_clamp (n := i + 1) (by omega)]) ?_
    refine lv_aload_n hx hb dL_law_394 rfl (lv_at hl 5 rfl) ?_
    refine lv_iload hx hb dL_law_395 (lv_at hl 1 rfl) ?_
    refine lv_iconst (v := nI 2) hx hb dL_law_397 (by decide) ?_
    refine lv_iadd hx hb dL_law_398 ?_
    refine xtop (show ((nI (i)) + (nI 2)) = nI (i + 2) from nI_add i 2) ?_
    refine va_sld hx hb hXs hbl hbA hS (i := nI (i + 2)) (vp_in_nI (n := i + 2) (by omega) (by omega)) dL_law_399 ?_
    refine xtop (show (xs (nI (i + 2)).toNatClampNeg) = xs (i + 2) from by rw [nI_clamp (n := i + 2) (by omega)]) ?_
    refine lv_aload_n hx hb dL_law_400 rfl (lv_at hl 5 rfl) ?_
    refine lv_iload hx hb dL_law_401 (lv_at hl 1 rfl) ?_
    refine lv_iconst (v := nI 3) hx hb dL_law_403 (by decide) ?_
    refine lv_iadd hx hb dL_law_404 ?_
    refine xtop (show ((nI (i)) + (nI 3)) = nI (i + 3) from nI_add i 3) ?_
    refine va_sld hx hb hXs hbl hbA hS (i := nI (i + 3)) (vp_in_nI (n := i + 3) (by omega) (by omega)) dL_law_405 ?_
    refine xtop (show (xs (nI (i + 3)).toNatClampNeg) = xs (i + 3) from by rw [nI_clamp (n := i + 3) (by omega)]) ?_
    refine lv_aload_n hx hb dL_law_406 rfl (lv_at hl 5 rfl) ?_
    refine lv_iload hx hb dL_law_407 (lv_at hl 1 rfl) ?_
    refine lv_iconst (v := nI 4) hx hb dL_law_409 (by decide) ?_
    refine lv_iadd hx hb dL_law_410 ?_
    refine xtop (show ((nI (i)) + (nI 4)) = nI (i + 4) from nI_add i 4) ?_
    refine va_sld hx hb hXs hbl hbA hS (i := nI (i + 4)) (vp_in_nI (n := i + 4) (by omega) (by omega)) dL_law_411 ?_
    refine xtop (show (xs (nI (i + 4)).toNatClampNeg) = xs (i + 4) from by rw [nI_clamp (n := i + 4) (by omega)]) ?_
    refine xci (va_runV (As := [.int (xs (i + 1)), .int (xs (i + 2)), .int (xs (i + 3)), .int (xs (i + 4))]) (rest := []) ⟨hx, hb, hml, hown, hts⟩ (c_X5_planPrice l D cA e0 (cM bm) H1 bm g tt (N 0) (N 1) hY1 hYA (xs (i + 1)) (xs (i + 2)) (xs (i + 3)) (xs (i + 4))) ⟨(callB_of 4 hts gi_X5_planPrice rfl rfl rfl (hts _ q_ini_X5) (hts _ q_ml_L_86) hd_X5_planPrice ⟨Nat.le_of_ble_eq_true rfl, Nat.le_of_ble_eq_true rfl⟩), hts _ q_im_X5_planPrice, hts _ q_sel_X5_X5_planPrice⟩ (xpVn hE hS hcM (hY1.main) rfl) rfl rfl hl.1 rfl (lv_room (Nat.le_of_ble_eq_true rfl)) dL_law_412 ⟨(show 24 + 9 * (t + 1) + 0 ≤ 601024 by omega), (show 4951 + 56 * (t + 1) + 0 ≤ 7293033 by omega)⟩) hS hcM (fun r8 H2 locs hQ9 hz8 hk8 hS => ?_)
    refine W.widen (k := 24 + 9 * (t + 1)) (n := 4951 + 56 * (t + 1)) (by omega) (by omega) ?_
    have hX2 := hX1.mod hAx hk8
    have hO2 := hO1.kept (hk8 _ hO1.lt hoM)
    rcases hQ9 with ⟨m1, m2, ⟨m3, hr2, g2, hY2, he2⟩ | ⟨m3, m4, hr2, g2, hY2, he2, h21⟩⟩ | ⟨m1, hY2⟩ | ⟨m1, m2, hY2⟩ | ⟨m1, m2, m3, hY2⟩
    · exact (hc.2 (Or.inl m3)).elim
    · exact (hc.2 (Or.inr m4)).elim
    · exact (m1 hc.1.1).elim
    · exact (m2 hc.1.2).elim
    · refine lv_istore (lv' := [(6, .int (r8)), (5, .int (nI 3)), (4, .int (nI (i))), (3, .ref (o)), (2, .ref (bm 0)), (1, .ref (ad 0 0)), (0, .ref (b))]) hx hb dL_law_415 hl (by decide) rfl (fun ls hl => ?_)
      refine lv_aload_n hx hb dL_law_417 rfl (lv_at hl 4 rfl) ?_
      refine xcRi (va_runV (As := []) (rest := []) ⟨hx, hb, hml, hown, hts⟩ (c_X5_thrown l D cA e0 (lwA s) _ bm _ _ _ _ hY2) ⟨(callB_of 0 hts gi_X5_thrown rfl rfl rfl (hts _ q_ini_X5) (hts _ q_ml_L_72) hd_X5_thrown ⟨Nat.le_of_ble_eq_true rfl, Nat.le_of_ble_eq_true rfl⟩), hts _ q_im_X5_thrown, hts _ q_sel_X5_X5_thrown⟩ (xpV hE hS (hY2.main) rfl) rfl rfl hl.1 rfl (lv_room (Nat.le_of_ble_eq_true rfl)) dL_law_418 ⟨(show 24 + 9 * (t + 1) + 0 ≤ 601024 by omega), (show 4951 + 56 * (t + 1) + 0 ≤ 7293033 by omega)⟩) ?_
      refine xtop (show _ = nI 3 from thG_20 g 3) ?_
      refine lv_iload hx hb dL_law_421 (lv_at hl 1 rfl) ?_
      refine lv_icmp_eq (tgt := 428) hx hb dL_law_423 (by decide) (fun _ => ?_) (fun hno => absurd (rfl) hno)
      refine lv_iload hx hb dL_law_428 (lv_at hl 1 rfl) ?_
      refine lv_if_ne (tgt := 445) hx hb dL_law_430 (by decide) (fun _ => ?_) (fun hno => absurd hno ((by decide)))
      refine lv_goto (tgt := 1185) hx hb dL_law_445 (by decide) ?_
      exact K _ _ _ _ _ _ _ (LI_eqY hLI hX2 (fun _ _ _ _ => rfl) hY2 (fun t9 a9 _ => thG_t g 3 a9) ⟨_, hO2⟩) hS (lv_sub hl [2, 3, 4, 5, 6] rfl)
