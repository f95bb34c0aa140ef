/-! One of the five times of the law (by p46.py) -/
set_option maxHeartbeats 4000000 in
set_option maxRecDepth 100000 in
/-- one of the five times -/
theorem law_iter {p : Program} {l : Launch} {e : Env} {s : State} {m : MethodId} {below : List Frame} {meth : Method} {c : Code} {b L : Nat} {xs : Nat → Int32} {D : va_G} {cA : Nat → ClassId} {e0 w : Nat} {Fc : Nat → Prop} (C : lwC p l s m meth c b L xs D cA e0 w Fc) {ad : Nat → Nat → Nat} {g : Nat → Nat → Int32} {tt : Nat → Int64} {N : Nat → Nat} {H : Heap} {n : Nat} (hI : pI D cA e0 Fc w ad g tt N H n) (hn : n ≤ 6) {t d : Nat} (ht : t < 5) (hd : d ≤ 6 * t) (hd2 : t ≤ d) (hday : g 13 0 = nI d) {cs ss : Nat} (hcs : cs ≤ 500000) (hss : ss ≤ 6000000) {locs : List Loc} {ls : Array Slot} (hS : va_S (lwA s) s.heap H locs) (hl : lv_has ls 23 [(4, .int (nI (t))), (3, .int (nI (n))), (2, .ref (w)), (1, .ref (ad 0 0)), (0, .ref (b))]) (K : ∀ (ad : Nat → Nat → Nat) (g : Nat → Nat → Int32) (tt : Nat → Int64) (N : Nat → Nat) (H : Heap) (locs : List Loc) (ls : Array Slot) (d : Nat), d ≤ 6 * (t + 1) → t + 1 ≤ d → g 13 0 = nI d → pI D cA e0 Fc w ad g tt N H n → va_S (lwA s) s.heap H locs → lv_has ls 23 [(4, .int (nI (t))), (3, .int (nI (n))), (2, .ref (w)), (1, .ref (ad 0 0)), (0, .ref (b))] → W p l e room_1 s m #[Value.ref b] below meth c H locs (cs + 200) (ss + 1200) (lw_Z below #[Value.ref b] s) (F0 m 571 ls [])) : W p l e room_1 s m #[Value.ref b] below meth c H locs cs ss (lw_Z below #[Value.ref b] s) (F0 m 47 ls []) := by
  have C9 := C
  obtain ⟨hx, hb, hr, hml, hown, hE, hXs, hbl, hlocks, hLb, hl9, hFF, hwF⟩ := C
  have hts := hE.1.all #[Value.ref b]
  have hK := hE.2.1
  have hbA : ¬ lwA s b := Nat.not_le.mpr hbl
  have h256 := pow256 (show n ≤ 8 by omega)
  have hpp := Nat.two_pow_pos n
  have hLm : L < 2 ^ 31 := by omega
  obtain ⟨hX, hA, hN, hN1, hIv, hW, hBx, hWa, h80⟩ := id hI
  refine lv_aload_n hx hb dL_law_47 rfl (lv_at hl 4 rfl) ?_
  refine lv_bipush (v := nI 9) hx hb dL_law_48 (by decide) ?_
  refine lv_iload hx hb dL_law_50 (lv_at hl 0 rfl) ?_
  refine lv_iadd hx hb dL_law_52 ?_
  refine xtop (show ((nI 9) + (nI (t))) = nI (9 + t) from nI_add 9 t) ?_
  refine xcRi (va_runS (As := [.ref (b), .int (nI (9 + t))]) (rest := []) ⟨hx, hb, hml, hown, hts⟩ (c_L_cell l D cA e0 (lwA s) H b L xs (9 + t) hbA hLm (by omega)) ⟨(callB_of 2 hts gi_L_cell rfl rfl rfl (hts _ q_ini_L) (hts _ q_ml_L_9) hd_L_cell ⟨Nat.le_of_ble_eq_true rfl, Nat.le_of_ble_eq_true rfl⟩), hts _ q_st_L_cell⟩ (xpSs hE hXs hbl hbA hS (fun q h => h)) rfl rfl hl.1 rfl (lv_room (Nat.le_of_ble_eq_true rfl)) dL_law_53 ⟨(show cs + 0 ≤ 626463 by omega), (show ss + 0 ≤ 7222236 by omega)⟩) ?_
  generalize (cellF xs L (9 + t)) = xv
  refine lv_istore (lv' := [(5, .int (xv)), (4, .int (nI (t))), (3, .int (nI (n))), (2, .ref (w)), (1, .ref (ad 0 0)), (0, .ref (b))]) hx hb dL_law_56 hl (by decide) rfl (fun ls hl => ?_)
  refine lv_iload hx hb dL_law_58 (lv_at hl 0 rfl) ?_
  refine lv_sipush (v := nI 300) hx hb dL_law_60 (by decide) ?_
  have hlt63 : belN (xv) (300) < 300 := bel_lt _ (by omega)
  refine xcRi (va_runS (As := [.int (xv), .int (nI 300)]) (rest := []) ⟨hx, hb, hml, hown, hts⟩ (c_L_below l D cA e0 (lwA s) H (xv) (300) (by omega) (by omega)) ⟨(callB_of 2 hts gi_L_below rfl rfl rfl (hts _ q_ini_L) (hts _ q_ml_L_15) hd_L_below ⟨Nat.le_of_ble_eq_true rfl, Nat.le_of_ble_eq_true rfl⟩), hts _ q_st_L_below⟩ (xpS hE hS) rfl rfl hl.1 rfl (lv_room (Nat.le_of_ble_eq_true rfl)) dL_law_63 ⟨(show cs + 0 ≤ 626463 by omega), (show ss + 0 ≤ 7222236 by omega)⟩) ?_
  obtain ⟨lim, h_lim⟩ : ∃ z, z = belN (xv) (300) := ⟨_, rfl⟩
  refine xtop (show (nI (belN (xv) (300))) = nI (lim) from by rw [h_lim]) ?_
  have hlim : lim < 300 := by omega
  refine lv_istore (lv' := [(6, .int (nI (lim))), (5, .int (xv)), (4, .int (nI (t))), (3, .int (nI (n))), (2, .ref (w)), (1, .ref (ad 0 0)), (0, .ref (b))]) hx hb dL_law_66 hl (by decide) rfl (fun ls hl => ?_)
  refine lv_iload hx hb dL_law_68 (lv_at hl 1 rfl) ?_
  refine lv_iconst (v := nI 3) hx hb dL_law_70 (by decide) ?_
  refine lv_ishr hx hb dL_law_71 ?_
  refine lv_sipush (v := nI 150) hx hb dL_law_72 (by decide) ?_
  have hlt75 : belN (xv >>> (nI 3 &&& 31)) (150) < 150 := bel_lt _ (by omega)
  refine xcRi (va_runS (As := [.int (xv >>> (nI 3 &&& 31)), .int (nI 150)]) (rest := []) ⟨hx, hb, hml, hown, hts⟩ (c_L_below l D cA e0 (lwA s) H (xv >>> (nI 3 &&& 31)) (150) (by omega) (by omega)) ⟨(callB_of 2 hts gi_L_below rfl rfl rfl (hts _ q_ini_L) (hts _ q_ml_L_15) hd_L_below ⟨Nat.le_of_ble_eq_true rfl, Nat.le_of_ble_eq_true rfl⟩), hts _ q_st_L_below⟩ (xpS hE hS) rfl rfl hl.1 rfl (lv_room (Nat.le_of_ble_eq_true rfl)) dL_law_75 ⟨(show cs + 0 ≤ 626463 by omega), (show ss + 0 ≤ 7222236 by omega)⟩) ?_
  obtain ⟨load, h_load⟩ : ∃ z, z = belN (xv >>> (nI 3 &&& 31)) (150) := ⟨_, rfl⟩
  refine xtop (show (nI (belN (xv >>> (nI 3 &&& 31)) (150))) = nI (load) from by rw [h_load]) ?_
  have hload : load < 150 := by omega
  refine lv_istore (lv' := [(7, .int (nI (load))), (6, .int (nI (lim))), (5, .int (xv)), (4, .int (nI (t))), (3, .int (nI (n))), (2, .ref (w)), (1, .ref (ad 0 0)), (0, .ref (b))]) hx hb dL_law_78 hl (by decide) rfl (fun ls hl => ?_)
  refine lv_aload_n hx hb dL_law_80 rfl (lv_at hl 6 rfl) ?_
  refine lv_iload hx hb dL_law_81 (lv_at hl 1 rfl) ?_
  refine lv_iload hx hb dL_law_83 (lv_at hl 0 rfl) ?_
  refine xcXi (vx_runV (As := [.int (nI (lim)), .int (nI (load))]) (rest := []) ⟨hx, hb, hml, hown, hts⟩ (c_X4_best l D cA e0 Fc H ad g tt N hX (nI (lim)) (nI (load)) hA (by rw [hN]; exact hW) hl9) ⟨(callB_of 2 hts gi_X4_best rfl rfl rfl (hts _ q_ini_X4) (hts _ q_ml_L_79) hd_X4_best ⟨Nat.le_of_ble_eq_true rfl, Nat.le_of_ble_eq_true rfl⟩), hts _ q_im_X4_best, hts _ q_sel_X4_X4_best⟩ (xpVn hE hS hFF (hX.main) rfl) rfl rfl hl.1 rfl (lv_room (Nat.le_of_ble_eq_true rfl)) dL_law_85 ⟨(show cs + 1 ≤ 626463 by omega), (show ss + 6 ≤ 7222236 by omega)⟩) hS hFF (fun E9 ce9 q9 H9 locs9 hPX9 hz9 hk9 hS9 hc9 hv9 hcl9 => ?_) (fun r_1 H1 locs hP9 hz9 hk9 hS => ?_)
  · exact (hPX9.2 ⟨⟨lim, Nat.zero_le _, by omega, rfl⟩, load, Nat.zero_le _, by omega, rfl⟩).elim
  obtain ⟨-, hr9, g1, hX1, hv1⟩ := hP9
  have hday1 : g1 13 0 = nI d := by rw [hv1.1 13 (by omega) (by omega) (by omega)]; exact hday
  rw [hN, ← sv_bs hv1] at hr9
  have hI := pI_sv hI hX1 hv1 (hk9 _ hWa.lt hwF)
  obtain ⟨hX, hA, hN, hN1, hIv, hW, hBx, hWa, h80⟩ := id hI
  have h80a := h80
  obtain ⟨hB1, hB2, hB3⟩ := best_ok (g := g1) (n := n) (lim := lim) (load := load) (by omega) h80 (by omega) (by omega)
  obtain ⟨S1, hS1⟩ : ∃ z, z = (bsF g1 (nI lim) (nI load) (2 ^ n - 1)).1 := ⟨_, rfl⟩
  rw [← hS1] at hr9 hB1 hB2 hB3
  rw [hr9]
  refine lv_istore (lv' := [(8, .int (nI (S1))), (7, .int (nI (load))), (6, .int (nI (lim))), (5, .int (xv)), (4, .int (nI (t))), (3, .int (nI (n))), (2, .ref (w)), (1, .ref (ad 0 0)), (0, .ref (b))]) hx hb dL_law_88 hl (by decide) rfl (fun ls hl => ?_)
  refine lv_iconst (v := nI 0) hx hb dL_law_90 (by decide) ?_
  refine lv_istore (lv' := [(9, .int (nI 0)), (8, .int (nI (S1))), (7, .int (nI (load))), (6, .int (nI (lim))), (5, .int (xv)), (4, .int (nI (t))), (3, .int (nI (n))), (2, .ref (w)), (1, .ref (ad 0 0)), (0, .ref (b))]) hx hb dL_law_91 hl (by decide) rfl (fun ls hl => ?_)
  refine lv_iconst (v := nI 0) hx hb dL_law_93 (by decide) ?_
  refine lv_istore (lv' := [(10, .int (nI 0)), (9, .int (nI 0)), (8, .int (nI (S1))), (7, .int (nI (load))), (6, .int (nI (lim))), (5, .int (xv)), (4, .int (nI (t))), (3, .int (nI (n))), (2, .ref (w)), (1, .ref (ad 0 0)), (0, .ref (b))]) hx hb dL_law_94 hl (by decide) rfl (fun ls hl => ?_)
  refine lv_iconst (v := nI 0) hx hb dL_law_96 (by decide) ?_
  refine lv_istore (lv' := [(11, .int (nI 0)), (10, .int (nI 0)), (9, .int (nI 0)), (8, .int (nI (S1))), (7, .int (nI (load))), (6, .int (nI (lim))), (5, .int (xv)), (4, .int (nI (t))), (3, .int (nI (n))), (2, .ref (w)), (1, .ref (ad 0 0)), (0, .ref (b))]) hx hb dL_law_97 hl (by decide) rfl (fun ls hl => ?_)
  refine law_p1 C9 hI hn (S := S1) (lim := lim) (load := load) (t := t) (xv := xv) hB1 (cs := (cs + 1)) (ss := (ss + 6)) (by omega) (by omega) hS (lv_sub hl [0, 1, 2, 3, 4, 5, 6, 7, 8, 9, 10, 11] rfl) (fun locs ls hS hl => ?_)
  refine lv_aload_n hx hb dL_law_148 rfl (lv_at hl 9 rfl) ?_
  refine lv_iload hx hb dL_law_149 (lv_at hl 2 rfl) ?_
  refine xcXi (vx_runV (As := [.int (nI (S1))]) (rest := []) ⟨hx, hb, hml, hown, hts⟩ (c_X4_minutes l D cA e0 Fc H1 ad g1 tt N hX (nI (S1)) hA (by rw [hN]; exact hW) hl9) ⟨(callB_of 1 hts gi_X4_minutes rfl rfl rfl (hts _ q_ini_X4) (hts _ q_ml_L_82) hd_X4_minutes ⟨Nat.le_of_ble_eq_true rfl, Nat.le_of_ble_eq_true rfl⟩), hts _ q_im_X4_minutes, hts _ q_sel_X4_X4_minutes⟩ (xpVn hE hS hFF (hX.main) rfl) rfl rfl hl.1 rfl (lv_room (Nat.le_of_ble_eq_true rfl)) dL_law_151 ⟨(show ((cs + 1) + 24) + 1 ≤ 626463 by omega), (show ((ss + 6) + 144) + 6 ≤ 7222236 by omega)⟩) hS hFF (fun E9 ce9 q9 H9 locs9 hPX9 hz9 hk9 hS9 hc9 hv9 hcl9 => ?_) (fun r_2 H2 locs hP9 hz9 hk9 hS => ?_)
  · exact (hPX9.2 ⟨S1, by rw [hN]; exact hB1, rfl⟩).elim
  obtain ⟨-, hr9, g2, hX1, hv2⟩ := hP9
  have hday2 : g2 13 0 = nI d := by rw [hv2.1 13 (by omega) (by omega) (by omega)]; exact hday1
  rw [cl_nI (n := S1) (by omega)] at hr9
  have hI := pI_sv hI hX1 hv2 (hk9 _ hWa.lt hwF)
  obtain ⟨hX, hA, hN, hN1, hIv, hW, hBx, hWa, h80⟩ := id hI
  obtain ⟨hf1, hf2, -⟩ := sv_fn hv2
  rw [hr9]
  refine lv_iload hx hb dL_law_154 (lv_at hl 4 rfl) ?_
  refine lv_icmp_gt (tgt := 166) hx hb dL_law_156 (by decide) (fun hno => absurd hno ((ile_ngt hB2))) (fun _ => ?_)
  refine lv_iload hx hb dL_law_159 (lv_at hl 0 rfl) ?_
  refine lv_iload hx hb dL_law_161 (lv_at hl 3 rfl) ?_
  refine lv_icmp_le (tgt := 168) hx hb dL_law_163 (by decide) (fun _ => ?_) (fun hno => absurd (hB3) hno)
  refine lv_aload_n hx hb dL_law_168 rfl (lv_at hl 9 rfl) ?_
  refine lv_iload hx hb dL_law_169 (lv_at hl 4 rfl) ?_
  refine lv_iload hx hb dL_law_171 (lv_at hl 5 rfl) ?_
  refine lv_iconst (v := nI 5) hx hb dL_law_173 (by decide) ?_
  refine lv_ishr hx hb dL_law_174 ?_
  refine lv_bipush (v := nI 100) hx hb dL_law_175 (by decide) ?_
  have hlt177 : belN (xv >>> (nI 5 &&& 31)) (100) < 100 := bel_lt _ (by omega)
  refine xcRi (va_runS (As := [.int (xv >>> (nI 5 &&& 31)), .int (nI 100)]) (rest := [.int (nI (lim)), .ref (ad 0 0)]) ⟨hx, hb, hml, hown, hts⟩ (c_L_below l D cA e0 (lwA s) H2 (xv >>> (nI 5 &&& 31)) (100) (by omega) (by omega)) ⟨(callB_of 2 hts gi_L_below rfl rfl rfl (hts _ q_ini_L) (hts _ q_ml_L_15) hd_L_below ⟨Nat.le_of_ble_eq_true rfl, Nat.le_of_ble_eq_true rfl⟩), hts _ q_st_L_below⟩ (xpS hE hS) rfl rfl hl.1 rfl (lv_room (Nat.le_of_ble_eq_true rfl)) dL_law_177 ⟨(show (((cs + 1) + 24) + 1) + 0 ≤ 626463 by omega), (show (((ss + 6) + 144) + 6) + 0 ≤ 7222236 by omega)⟩) ?_
  refine lv_iadd hx hb dL_law_180 ?_
  refine xtop (show ((nI (lim)) + (nI (belN (xv >>> (nI 5 &&& 31)) (100)))) = nI (lim + (belN (xv >>> (nI 5 &&& 31)) (100))) from nI_add lim (belN (xv >>> (nI 5 &&& 31)) (100))) ?_
  refine lv_iload hx hb dL_law_181 (lv_at hl 3 rfl) ?_
  refine lv_iload hx hb dL_law_183 (lv_at hl 5 rfl) ?_
  refine lv_bipush (v := nI 7) hx hb dL_law_185 (by decide) ?_
  refine lv_ishr hx hb dL_law_187 ?_
  refine lv_bipush (v := nI 100) hx hb dL_law_188 (by decide) ?_
  have hlt190 : belN (xv >>> (nI 7 &&& 31)) (100) < 100 := bel_lt _ (by omega)
  refine xcRi (va_runS (As := [.int (xv >>> (nI 7 &&& 31)), .int (nI 100)]) (rest := [.int (nI (load)), .int (nI (lim + (belN (xv >>> (nI 5 &&& 31)) (100)))), .ref (ad 0 0)]) ⟨hx, hb, hml, hown, hts⟩ (c_L_below l D cA e0 (lwA s) H2 (xv >>> (nI 7 &&& 31)) (100) (by omega) (by omega)) ⟨(callB_of 2 hts gi_L_below rfl rfl rfl (hts _ q_ini_L) (hts _ q_ml_L_15) hd_L_below ⟨Nat.le_of_ble_eq_true rfl, Nat.le_of_ble_eq_true rfl⟩), hts _ q_st_L_below⟩ (xpS hE hS) rfl rfl hl.1 rfl (lv_room (Nat.le_of_ble_eq_true rfl)) dL_law_190 ⟨(show (((cs + 1) + 24) + 1) + 0 ≤ 626463 by omega), (show (((ss + 6) + 144) + 6) + 0 ≤ 7222236 by omega)⟩) ?_
  refine lv_iadd hx hb dL_law_193 ?_
  refine xtop (show ((nI (load)) + (nI (belN (xv >>> (nI 7 &&& 31)) (100)))) = nI (load + (belN (xv >>> (nI 7 &&& 31)) (100))) from nI_add load (belN (xv >>> (nI 7 &&& 31)) (100))) ?_
  refine xcXi (vx_runV (As := [.int (nI (lim + (belN (xv >>> (nI 5 &&& 31)) (100)))), .int (nI (load + (belN (xv >>> (nI 7 &&& 31)) (100))))]) (rest := []) ⟨hx, hb, hml, hown, hts⟩ (c_X4_best l D cA e0 Fc H2 ad g2 tt N hX (nI (lim + (belN (xv >>> (nI 5 &&& 31)) (100)))) (nI (load + (belN (xv >>> (nI 7 &&& 31)) (100)))) hA (by rw [hN]; exact hW) hl9) ⟨(callB_of 2 hts gi_X4_best rfl rfl rfl (hts _ q_ini_X4) (hts _ q_ml_L_79) hd_X4_best ⟨Nat.le_of_ble_eq_true rfl, Nat.le_of_ble_eq_true rfl⟩), hts _ q_im_X4_best, hts _ q_sel_X4_X4_best⟩ (xpVn hE hS hFF (hX.main) rfl) rfl rfl hl.1 rfl (lv_room (Nat.le_of_ble_eq_true rfl)) dL_law_194 ⟨(show (((cs + 1) + 24) + 1) + 1 ≤ 626463 by omega), (show (((ss + 6) + 144) + 6) + 6 ≤ 7222236 by omega)⟩) hS hFF (fun E9 ce9 q9 H9 locs9 hPX9 hz9 hk9 hS9 hc9 hv9 hcl9 => ?_) (fun r_3 H3 locs hP9 hz9 hk9 hS => ?_)
  · exact (hPX9.2 ⟨⟨lim + (belN (xv >>> (nI 5 &&& 31)) (100)), Nat.zero_le _, by omega, rfl⟩, load + (belN (xv >>> (nI 7 &&& 31)) (100)), Nat.zero_le _, by omega, rfl⟩).elim
  obtain ⟨-, hr9, g3, hX1, hv3⟩ := hP9
  have hday3 : g3 13 0 = nI d := by rw [hv3.1 13 (by omega) (by omega) (by omega)]; exact hday2
  rw [hN, sv_bs hv2] at hr9
  have hI := pI_sv hI hX1 hv3 (hk9 _ hWa.lt hwF)
  obtain ⟨hX, hA, hN, hN1, hIv, hW, hBx, hWa, h80⟩ := id hI
  obtain ⟨hf3, hf4, -⟩ := sv_fn hv3
  have hmono := best_mono (g := g1) (n := n) (l := lim) (l' := lim + (belN (xv >>> (nI 5 &&& 31)) (100))) (d := load) (d' := load + (belN (xv >>> (nI 7 &&& 31)) (100))) (by omega) (by omega) (by omega) (by omega) (by omega)
  have hM1 := (best_ok (g := g1) (n := n) (lim := lim + (belN (xv >>> (nI 5 &&& 31)) (100))) (load := load + (belN (xv >>> (nI 7 &&& 31)) (100))) (by omega) h80a (by omega) (by omega)).1
  obtain ⟨M1, hMe⟩ : ∃ z, z = (bsF g1 (nI (lim + (belN (xv >>> (nI 5 &&& 31)) (100)))) (nI (load + (belN (xv >>> (nI 7 &&& 31)) (100)))) (2 ^ n - 1)).1 := ⟨_, rfl⟩
  rw [← hS1, ← hMe] at hmono
  rw [← hMe] at hr9 hM1
  rw [hr9]
  refine lv_istore (lv' := [(11, .int (nI (M1))), (10, .int (selF S1 (lackF g1) n)), (9, .int (selF S1 (gainF g1) n)), (8, .int (nI (S1))), (7, .int (nI (load))), (6, .int (nI (lim))), (5, .int (xv)), (4, .int (nI (t))), (3, .int (nI (n))), (2, .ref (w)), (1, .ref (ad 0 0)), (0, .ref (b))]) hx hb dL_law_197 hl (by decide) rfl (fun ls hl => ?_)
  refine lv_iconst (v := nI 0) hx hb dL_law_199 (by decide) ?_
  refine lv_istore (lv' := [(12, .int (nI 0)), (11, .int (nI (M1))), (10, .int (selF S1 (lackF g1) n)), (9, .int (selF S1 (gainF g1) n)), (8, .int (nI (S1))), (7, .int (nI (load))), (6, .int (nI (lim))), (5, .int (xv)), (4, .int (nI (t))), (3, .int (nI (n))), (2, .ref (w)), (1, .ref (ad 0 0)), (0, .ref (b))]) hx hb dL_law_200 hl (by decide) rfl (fun ls hl => ?_)
  refine lv_iconst (v := nI 0) hx hb dL_law_202 (by decide) ?_
  refine lv_istore (lv' := [(13, .int (nI 0)), (12, .int (nI 0)), (11, .int (nI (M1))), (10, .int (selF S1 (lackF g1) n)), (9, .int (selF S1 (gainF g1) n)), (8, .int (nI (S1))), (7, .int (nI (load))), (6, .int (nI (lim))), (5, .int (xv)), (4, .int (nI (t))), (3, .int (nI (n))), (2, .ref (w)), (1, .ref (ad 0 0)), (0, .ref (b))]) hx hb dL_law_203 hl (by decide) rfl (fun ls hl => ?_)
  refine law_p2 C9 hI hn (S := M1) (t := t) (xv := xv) (G := selF S1 (gainF g1) n) hM1 (cs := ((((cs + 1) + 24) + 1) + 1)) (ss := ((((ss + 6) + 144) + 6) + 6)) (by omega) (by omega) hS (lv_sub hl [0, 1, 2, 4, 8, 9, 10, 11, 12, 13] rfl) (fun locs ls hS hl => ?_)
  refine lv_iload hx hb dL_law_244 (lv_at hl 0 rfl) ?_
  refine lv_iload hx hb dL_law_246 (lv_at hl 1 rfl) ?_
  refine lv_icmp_ge (tgt := 253) hx hb dL_law_248 (by decide) (fun _ => ?_) (fun hno => absurd ((show selF M1 (gainF g3) n ≥ selF S1 (gainF g1) n from by rw [hf3, hf1]; exact hmono)) hno)
  refine lv_iload hx hb dL_law_253 (lv_at hl 2 rfl) ?_
  refine lv_bipush (v := nI 9) hx hb dL_law_255 (by decide) ?_
  refine lv_ishr hx hb dL_law_257 ?_
  refine lv_iconst (v := nI 1) hx hb dL_law_258 (by decide) ?_
  refine lv_iload_n hx hb dL_law_259 rfl (lv_at hl 4 rfl) ?_
  refine lv_ishl hx hb dL_law_260 ?_
  refine xtop (show ((nI 1) <<< (nI (n) &&& 31)) = nI (2 ^ n) from p_pw n (by omega)) ?_
  have hlt261 : belN (xv >>> (nI 9 &&& 31)) (2 ^ n) < 2 ^ n := bel_lt _ (by omega)
  refine xcRi (va_runS (As := [.int (xv >>> (nI 9 &&& 31)), .int (nI (2 ^ n))]) (rest := []) ⟨hx, hb, hml, hown, hts⟩ (c_L_below l D cA e0 (lwA s) H3 (xv >>> (nI 9 &&& 31)) (2 ^ n) (by omega) (by omega)) ⟨(callB_of 2 hts gi_L_below rfl rfl rfl (hts _ q_ini_L) (hts _ q_ml_L_15) hd_L_below ⟨Nat.le_of_ble_eq_true rfl, Nat.le_of_ble_eq_true rfl⟩), hts _ q_st_L_below⟩ (xpS hE hS) rfl rfl hl.1 rfl (lv_room (Nat.le_of_ble_eq_true rfl)) dL_law_261 ⟨(show (((((cs + 1) + 24) + 1) + 1) + 12) + 0 ≤ 626463 by omega), (show (((((ss + 6) + 144) + 6) + 6) + 72) + 0 ≤ 7222236 by omega)⟩) ?_
  obtain ⟨S, h_S⟩ : ∃ z, z = belN (xv >>> (nI 9 &&& 31)) (2 ^ n) := ⟨_, rfl⟩
  refine xtop (show (nI (belN (xv >>> (nI 9 &&& 31)) (2 ^ n))) = nI (S) from by rw [h_S]) ?_
  have hSt : S < 2 ^ n := by rw [h_S]; exact hlt261
  refine lv_istore (lv' := [(13, .int (nI (S))), (12, .int (selF M1 (gainF g3) n)), (9, .int (selF S1 (gainF g1) n)), (5, .int (xv)), (4, .int (nI (t))), (3, .int (nI (n))), (2, .ref (w)), (1, .ref (ad 0 0)), (0, .ref (b))]) hx hb dL_law_264 hl (by decide) rfl (fun ls hl => ?_)
  refine lv_bipush (v := nI 8) hx hb dL_law_266 (by decide) ?_
  refine lv_istore (lv' := [(14, .int (nI 8)), (13, .int (nI (S))), (12, .int (selF M1 (gainF g3) n)), (9, .int (selF S1 (gainF g1) n)), (5, .int (xv)), (4, .int (nI (t))), (3, .int (nI (n))), (2, .ref (w)), (1, .ref (ad 0 0)), (0, .ref (b))]) hx hb dL_law_268 hl (by decide) rfl (fun ls hl => ?_)
  refine lv_iconst (v := nI 0) hx hb dL_law_270 (by decide) ?_
  refine lv_istore (lv' := [(15, .int (nI 0)), (14, .int (nI 8)), (13, .int (nI (S))), (12, .int (selF M1 (gainF g3) n)), (9, .int (selF S1 (gainF g1) n)), (5, .int (xv)), (4, .int (nI (t))), (3, .int (nI (n))), (2, .ref (w)), (1, .ref (ad 0 0)), (0, .ref (b))]) hx hb dL_law_271 hl (by decide) rfl (fun ls hl => ?_)
  refine lv_iconst (v := nI 0) hx hb dL_law_273 (by decide) ?_
  refine lv_istore (lv' := [(16, .int (nI 0)), (15, .int (nI 0)), (14, .int (nI 8)), (13, .int (nI (S))), (12, .int (selF M1 (gainF g3) n)), (9, .int (selF S1 (gainF g1) n)), (5, .int (xv)), (4, .int (nI (t))), (3, .int (nI (n))), (2, .ref (w)), (1, .ref (ad 0 0)), (0, .ref (b))]) hx hb dL_law_274 hl (by decide) rfl (fun ls hl => ?_)
  refine lv_iconst (v := nI 0) hx hb dL_law_276 (by decide) ?_
  refine lv_istore (lv' := [(17, .int (nI 0)), (16, .int (nI 0)), (15, .int (nI 0)), (14, .int (nI 8)), (13, .int (nI (S))), (12, .int (selF M1 (gainF g3) n)), (9, .int (selF S1 (gainF g1) n)), (5, .int (xv)), (4, .int (nI (t))), (3, .int (nI (n))), (2, .ref (w)), (1, .ref (ad 0 0)), (0, .ref (b))]) hx hb dL_law_277 hl (by decide) rfl (fun ls hl => ?_)
  refine law_p3 C9 hI hn (S := S) (t := t) (xv := xv) hSt (cs := (((((cs + 1) + 24) + 1) + 1) + 12)) (ss := (((((ss + 6) + 144) + 6) + 6) + 72)) (by omega) (by omega) hS (lv_sub hl [0, 1, 2, 3, 4, 7, 8, 9, 10, 11, 12] rfl) (fun locs ls hS hl => ?_)
  have hat := vs_at (wy g3) (show n ≤ 8 by omega) hSt (bc S) (Nat.le_refl _)
  refine lv_iload hx hb dL_law_356 (lv_at hl 0 rfl) ?_
  refine lv_aload_n hx hb dL_law_358 rfl (lv_at hl 6 rfl) ?_
  refine lv_bipush (v := nI 9) hx hb dL_law_359 (by decide) ?_
  refine lv_iload hx hb dL_law_361 (lv_at hl 1 rfl) ?_
  refine lv_imul hx hb dL_law_363 ?_
  refine xtop (show ((nI 9) * (nI ((vs (wy g3) S (bc S)).2))) = nI (9 * ((vs (wy g3) S (bc S)).2)) from pk_mul 9 ((vs (wy g3) S (bc S)).2)) ?_
  refine lv_bipush (v := nI 8) hx hb dL_law_364 (by decide) ?_
  refine lv_iadd hx hb dL_law_366 ?_
  refine xtop (show ((nI (9 * ((vs (wy g3) S (bc S)).2))) + (nI 8)) = nI ((9 * ((vs (wy g3) S (bc S)).2)) + 8) from nI_add (9 * ((vs (wy g3) S (bc S)).2)) 8) ?_
  refine va_iald hx hb hK (xP1 (hWa)) 0 0 rfl rfl (i := nI ((9 * ((vs (wy g3) S (bc S)).2)) + 8)) (vp_in_nI (n := (9 * ((vs (wy g3) S (bc S)).2)) + 8) (by omega) (by omega)) dL_law_367 ?_
  refine xtop (show (g3 3 (nI ((9 * ((vs (wy g3) S (bc S)).2)) + 8)).toNatClampNeg) = g3 3 ((9 * ((vs (wy g3) S (bc S)).2)) + 8) from by rw [nI_clamp (n := (9 * ((vs (wy g3) S (bc S)).2)) + 8) (by omega)]) ?_
  refine lv_iadd hx hb dL_law_368 ?_
  refine xtop (show ((drvF (wy g3) S (bc S)) + (g3 3 ((9 * ((vs (wy g3) S (bc S)).2)) + 8))) = tw (wy g3) S 8 from drv_end (wy g3) (by omega) hSt) ?_
  refine lv_aload_n hx hb dL_law_369 rfl (lv_at hl 7 rfl) ?_
  refine lv_iload hx hb dL_law_370 (lv_at hl 2 rfl) ?_
  refine xcXi (vx_runV (As := [.int (nI (S))]) (rest := [.int (tw (wy g3) S 8)]) ⟨hx, hb, hml, hown, hts⟩ (c_X4_drive l D cA e0 Fc H3 ad g3 tt N hX (nI (S)) hA (by rw [hN]; exact hW) hl9) ⟨(callB_of 1 hts gi_X4_drive rfl rfl rfl (hts _ q_ini_X4) (hts _ q_ml_L_88) hd_X4_drive ⟨Nat.le_of_ble_eq_true rfl, Nat.le_of_ble_eq_true rfl⟩), hts _ q_im_X4_drive, hts _ q_sel_X4_X4_drive⟩ (xpVn hE hS hFF (hX.main) rfl) rfl rfl hl.1 rfl (lv_room (Nat.le_of_ble_eq_true rfl)) dL_law_372 ⟨(show ((((((cs + 1) + 24) + 1) + 1) + 12) + 16) + 1 ≤ 626463 by omega), (show ((((((ss + 6) + 144) + 6) + 6) + 72) + 96) + 6 ≤ 7222236 by omega)⟩) hS hFF (fun E9 ce9 q9 H9 locs9 hPX9 hz9 hk9 hS9 hc9 hv9 hcl9 => ?_) (fun r_4 H4 locs hP9 hz9 hk9 hS => ?_)
  · exact (hPX9.2 ⟨S, by rw [hN]; exact hSt, rfl⟩).elim
  obtain ⟨hh9, -, hr9⟩ := hP9
  rw [hh9] at hS ⊢
  rw [cl_nI (n := S) (by omega)] at hr9
  rw [hr9]
  refine lv_icmp_eq (tgt := 380) hx hb dL_law_375 (by decide) (fun _ => ?_) (fun hno => absurd (rfl) hno)
  refine lv_iconst (v := nI 0) hx hb dL_law_380 (by decide) ?_
  refine lv_istore (lv' := [(17, .int (nI 0)), (15, .int (drvF (wy g3) S (bc S))), (14, .int (nI ((vs (wy g3) S (bc S)).2))), (13, .int (nI (S))), (5, .int (xv)), (4, .int (nI (t))), (3, .int (nI (n))), (2, .ref (w)), (1, .ref (ad 0 0)), (0, .ref (b))]) hx hb dL_law_381 hl (by decide) rfl (fun ls hl => ?_)
  refine lv_iconst (v := nI 0) hx hb dL_law_383 (by decide) ?_
  refine lv_istore (lv' := [(18, .int (nI 0)), (17, .int (nI 0)), (15, .int (drvF (wy g3) S (bc S))), (14, .int (nI ((vs (wy g3) S (bc S)).2))), (13, .int (nI (S))), (5, .int (xv)), (4, .int (nI (t))), (3, .int (nI (n))), (2, .ref (w)), (1, .ref (ad 0 0)), (0, .ref (b))]) hx hb dL_law_384 hl (by decide) rfl (fun ls hl => ?_)
  refine lv_iconst (v := nI 0) hx hb dL_law_386 (by decide) ?_
  refine lv_istore (lv' := [(19, .int (nI 0)), (18, .int (nI 0)), (17, .int (nI 0)), (15, .int (drvF (wy g3) S (bc S))), (14, .int (nI ((vs (wy g3) S (bc S)).2))), (13, .int (nI (S))), (5, .int (xv)), (4, .int (nI (t))), (3, .int (nI (n))), (2, .ref (w)), (1, .ref (ad 0 0)), (0, .ref (b))]) hx hb dL_law_387 hl (by decide) rfl (fun ls hl => ?_)
  refine law_p4 C9 hI hn (S := S) (t := t) (xv := xv) hSt (cs := (((((((cs + 1) + 24) + 1) + 1) + 12) + 16) + 1)) (ss := (((((((ss + 6) + 144) + 6) + 6) + 72) + 96) + 6)) (by omega) (by omega) hS (lv_sub hl [0, 1, 2, 5, 6, 7, 8, 9, 10, 11] rfl) (fun locs ls hS hl => ?_)
  obtain ⟨hlk0, hlk1⟩ := lack_S hn hSt hIv
  obtain ⟨lk, hlk2⟩ : ∃ z, z = selN S (lkM g3) 8 := ⟨_, rfl⟩
  rw [← hlk2] at hlk0 hlk1
  refine lv_aload_n hx hb dL_law_438 rfl (lv_at hl 7 rfl) ?_
  refine lv_iconst (v := nI 0) hx hb dL_law_439 (by decide) ?_
  refine xcXl (vx_runV (As := [.int (nI 0)]) (rest := []) ⟨hx, hb, hml, hown, hts⟩ (c_X4_total l D cA e0 Fc H3 ad g3 tt N hX (nI 0) hl9) ⟨(callB_of 1 hts gi_X4_total rfl rfl rfl (hts _ q_ini_X4) (hts _ q_ml_L_91) hd_X4_total ⟨Nat.le_of_ble_eq_true rfl, Nat.le_of_ble_eq_true rfl⟩), hts _ q_im_X4_total, hts _ q_sel_X4_X4_total⟩ (xpVn hE hS hFF (hX.main) rfl) rfl rfl hl.1 rfl (lv_room (Nat.le_of_ble_eq_true rfl)) dL_law_440 ⟨(show ((((((((cs + 1) + 24) + 1) + 1) + 12) + 16) + 1) + 24) + 1 ≤ 626463 by omega), (show ((((((((ss + 6) + 144) + 6) + 6) + 72) + 96) + 6) + 144) + 6 ≤ 7222236 by omega)⟩) hS hFF (fun E9 ce9 q9 H9 locs9 hPX9 hz9 hk9 hS9 hc9 hv9 hcl9 => ?_) (fun r_5 H5 locs hP9 hz9 hk9 hS => ?_)
  · exact (hPX9.2 ⟨0, by omega, rfl⟩).elim
  obtain ⟨hh9, -, hr9⟩ := hP9
  rw [hh9] at hS ⊢
  have hr9 : r_5 = tt 0 := hr9.trans (by rw [cl_nI (n := 0) (by omega)])
  rw [hr9]
  refine lv_lstore (lv' := [(19, .long (tt 0)), (18, .int (selF S (g3 1) n)), (17, .int (selF S (lackF g3) n)), (13, .int (nI (S))), (5, .int (xv)), (4, .int (nI (t))), (3, .int (nI (n))), (2, .ref (w)), (1, .ref (ad 0 0)), (0, .ref (b))]) hx hb dL_law_443 hl (by decide) rfl (fun ls hl => ?_)
  refine lv_aload_n hx hb dL_law_445 rfl (lv_at hl 8 rfl) ?_
  refine lv_iload hx hb dL_law_446 (lv_at hl 3 rfl) ?_
  refine lv_iload hx hb dL_law_448 (lv_at hl 2 rfl) ?_
  refine lv_iload hx hb dL_law_450 (lv_at hl 4 rfl) ?_
  refine lv_iconst (v := nI 4) hx hb dL_law_452 (by decide) ?_
  refine lv_ishr hx hb dL_law_453 ?_
  refine lv_bipush (v := nI 9) hx hb dL_law_454 (by decide) ?_
  have hlt456 : belN (xv >>> (nI 4 &&& 31)) (9) < 9 := bel_lt _ (by omega)
  refine xcRi (va_runS (As := [.int (xv >>> (nI 4 &&& 31)), .int (nI 9)]) (rest := [.int (selF S (lackF g3) n), .int (nI (S)), .ref (ad 0 0)]) ⟨hx, hb, hml, hown, hts⟩ (c_L_below l D cA e0 (lwA s) H3 (xv >>> (nI 4 &&& 31)) (9) (by omega) (by omega)) ⟨(callB_of 2 hts gi_L_below rfl rfl rfl (hts _ q_ini_L) (hts _ q_ml_L_15) hd_L_below ⟨Nat.le_of_ble_eq_true rfl, Nat.le_of_ble_eq_true rfl⟩), hts _ q_st_L_below⟩ (xpS hE hS) rfl rfl hl.1 rfl (lv_room (Nat.le_of_ble_eq_true rfl)) dL_law_456 ⟨(show (((((((((cs + 1) + 24) + 1) + 1) + 12) + 16) + 1) + 24) + 1) + 0 ≤ 626463 by omega), (show (((((((((ss + 6) + 144) + 6) + 6) + 72) + 96) + 6) + 144) + 6) + 0 ≤ 7222236 by omega)⟩) ?_
  obtain ⟨ee, h_ee⟩ : ∃ z, z = belN (xv >>> (nI 4 &&& 31)) (9) := ⟨_, rfl⟩
  refine xtop (show (nI (belN (xv >>> (nI 4 &&& 31)) (9))) = nI (ee) from by rw [h_ee]) ?_
  have hee : ee < 9 := by omega
  refine lv_iadd hx hb dL_law_459 ?_
  refine xtop (show ((selF S (lackF g3) n) + (nI (ee))) = nI (lk + ee) from by rw [hlk0, nI_add]) ?_
  refine xcXi (vx_runV (As := [.int (nI (S)), .int (nI (lk + ee))]) (rest := []) ⟨hx, hb, hml, hown, hts⟩ (c_X4_go l D cA e0 Fc H3 ad g3 tt N hX (nI (S)) (nI (lk + ee)) hA (by rw [hN]; exact hW) (by rw [hN]; exact hIv) hl9) ⟨(callB_of 2 hts gi_X4_go rfl rfl rfl (hts _ q_ini_X4) (hts _ q_ml_L_95) hd_X4_go ⟨Nat.le_of_ble_eq_true rfl, Nat.le_of_ble_eq_true rfl⟩), hts _ q_im_X4_go, hts _ q_sel_X4_X4_go⟩ (xpVn hE hS hFF (hX.main) rfl) rfl rfl hl.1 rfl (lv_room (Nat.le_of_ble_eq_true rfl)) dL_law_460 ⟨(show (((((((((cs + 1) + 24) + 1) + 1) + 12) + 16) + 1) + 24) + 1) + 2 ≤ 626463 by omega), (show (((((((((ss + 6) + 144) + 6) + 6) + 72) + 96) + 6) + 144) + 6) + 12 ≤ 7222236 by omega)⟩) hS hFF (fun E9 ce9 q9 H9 locs9 hPX9 hz9 hk9 hS9 hc9 hv9 hcl9 => ?_) (fun r_6 H6 locs hP9 hz9 hk9 hS => ?_)
  · exact (hPX9.2 ⟨⟨S, by rw [hN]; exact hSt, rfl⟩, lk + ee, Nat.zero_le _, by omega, rfl⟩).elim
  obtain ⟨-, g4, hv4, hr9, hX4⟩ := hP9
  rw [cl_nI (n := S) (by omega), cl_nI (n := lk + ee) (by omega)] at hr9 hX4
  obtain ⟨T, hT⟩ : ∃ z, z = vp_updL (vp_updL tt 1 (tt 1 + (rtF g3 S).toInt64)) 3 (tt 3 + 1) := ⟨_, rfl⟩
  rw [← hT] at hr9 hX4
  have hT0 : T 0 = tt 0 := by rw [hT, pk_uLn (by omega), pk_uLn (by omega)]
  have hcoin := coin_S hn hSt hBx
  obtain ⟨hI, hq1, hq2, hq3, hq4⟩ := pI_go (lk := lk) (e := ee) hI hv4 (by omega) hSt hlk2 rfl hX4 (hk9 _ hWa.lt hwF)
  rw [hq1] at hr9
  rw [hr9]
  obtain ⟨g5, hg5⟩ : ∃ z, z = (goS (wy g3) S g4 T (lk + ee) (bc S)).1 := ⟨_, rfl⟩
  obtain ⟨t5, ht5⟩ : ∃ z, z = (goS (wy g3) S g4 T (lk + ee) (bc S)).2.1 := ⟨_, rfl⟩
  rw [← hg5, ← ht5] at hI
  rw [← hg5] at hq3 hq4
  rw [← ht5] at hq2
  have hcmp : t5 0 = tt 0 + lN (selN S (fun m => cl (g3 1 m)) 8) := by rw [hq2, hT0]
  have hday5 : g5 13 0 = nI d := by rw [hq3]; exact hday3
  obtain ⟨hX, hA, hN, hN1, hIv, hW, hBx, hWa, h80⟩ := id hI
  refine lv_istore (lv' := [(21, .int (nI (ee))), (19, .long (tt 0)), (18, .int (selF S (g3 1) n)), (17, .int (selF S (lackF g3) n)), (13, .int (nI (S))), (5, .int (xv)), (4, .int (nI (t))), (3, .int (nI (n))), (2, .ref (w)), (1, .ref (ad 0 0)), (0, .ref (b))]) hx hb dL_law_463 hl (by decide) rfl (fun ls hl => ?_)
  refine lv_iload hx hb dL_law_465 (lv_at hl 0 rfl) ?_
  refine lv_iload hx hb dL_law_467 (lv_at hl 5 rfl) ?_
  refine lv_iconst (v := nI 4) hx hb dL_law_469 (by decide) ?_
  refine lv_ishr hx hb dL_law_470 ?_
  refine lv_bipush (v := nI 9) hx hb dL_law_471 (by decide) ?_
  have hlt473 : belN (xv >>> (nI 4 &&& 31)) (9) < 9 := bel_lt _ (by omega)
  refine xcRi (va_runS (As := [.int (xv >>> (nI 4 &&& 31)), .int (nI 9)]) (rest := [.int (nI (ee))]) ⟨hx, hb, hml, hown, hts⟩ (c_L_below l D cA e0 (lwA s) H6 (xv >>> (nI 4 &&& 31)) (9) (by omega) (by omega)) ⟨(callB_of 2 hts gi_L_below rfl rfl rfl (hts _ q_ini_L) (hts _ q_ml_L_15) hd_L_below ⟨Nat.le_of_ble_eq_true rfl, Nat.le_of_ble_eq_true rfl⟩), hts _ q_st_L_below⟩ (xpS hE hS) rfl rfl hl.1 rfl (lv_room (Nat.le_of_ble_eq_true rfl)) dL_law_473 ⟨(show ((((((((((cs + 1) + 24) + 1) + 1) + 12) + 16) + 1) + 24) + 1) + 2) + 0 ≤ 626463 by omega), (show ((((((((((ss + 6) + 144) + 6) + 6) + 72) + 96) + 6) + 144) + 6) + 12) + 0 ≤ 7222236 by omega)⟩) ?_
  refine xtop (show (nI (belN (xv >>> (nI 4 &&& 31)) (9))) = nI (ee) from by rw [h_ee]) ?_
  refine lv_icmp_ne (tgt := 494) hx hb dL_law_476 (by decide) (fun hno => absurd hno ((fun z => z rfl))) (fun _ => ?_)
  refine lv_aload_n hx hb dL_law_479 rfl (lv_at hl 9 rfl) ?_
  refine lv_iconst (v := nI 0) hx hb dL_law_480 (by decide) ?_
  refine xcXl (vx_runV (As := [.int (nI 0)]) (rest := []) ⟨hx, hb, hml, hown, hts⟩ (c_X4_total l D cA e0 Fc H6 ad g5 t5 N hX (nI 0) hl9) ⟨(callB_of 1 hts gi_X4_total rfl rfl rfl (hts _ q_ini_X4) (hts _ q_ml_L_91) hd_X4_total ⟨Nat.le_of_ble_eq_true rfl, Nat.le_of_ble_eq_true rfl⟩), hts _ q_im_X4_total, hts _ q_sel_X4_X4_total⟩ (xpVn hE hS hFF (hX.main) rfl) rfl rfl hl.1 rfl (lv_room (Nat.le_of_ble_eq_true rfl)) dL_law_481 ⟨(show ((((((((((cs + 1) + 24) + 1) + 1) + 12) + 16) + 1) + 24) + 1) + 2) + 1 ≤ 626463 by omega), (show ((((((((((ss + 6) + 144) + 6) + 6) + 72) + 96) + 6) + 144) + 6) + 12) + 6 ≤ 7222236 by omega)⟩) hS hFF (fun E9 ce9 q9 H9 locs9 hPX9 hz9 hk9 hS9 hc9 hv9 hcl9 => ?_) (fun r_7 H7 locs hP9 hz9 hk9 hS => ?_)
  · exact (hPX9.2 ⟨0, by omega, rfl⟩).elim
  obtain ⟨hh9, -, hr9⟩ := hP9
  rw [hh9] at hS ⊢
  have hr9 : r_7 = t5 0 := hr9.trans (by rw [cl_nI (n := 0) (by omega)])
  rw [hr9]
  refine lv_lload hx hb dL_law_484 (lv_at hl 1 rfl) ?_
  refine lv_iload hx hb dL_law_486 (lv_at hl 2 rfl) ?_
  refine lv_i2l (v := (selF S (g3 1) n).toInt64) hx hb dL_law_488 rfl ?_
  refine xtopL (show ((selF S (g3 1) n).toInt64) = lN (selN S (fun m => cl (g3 1 m)) 8) from hcoin) ?_
  refine lv_ladd hx hb dL_law_489 ?_
  refine W.lcmp hx hb dL_law_490 ?_
  refine xtop (show lg_cmp (t5 0) ((tt 0) + (lN (selN S (fun m => cl (g3 1 m)) 8))) = nI 0 from by rw [hcmp]; exact lg_self _) ?_
  refine lv_if_eq (tgt := 496) hx hb dL_law_491 (by decide) (fun _ => ?_) (fun hno => absurd (rfl) hno)
  refine lv_iconst (v := nI 0) hx hb dL_law_496 (by decide) ?_
  refine lv_istore (lv' := [(22, .int (nI 0)), (21, .int (nI (ee))), (19, .long (tt 0)), (18, .int (selF S (g3 1) n)), (17, .int (selF S (lackF g3) n)), (13, .int (nI (S))), (5, .int (xv)), (4, .int (nI (t))), (3, .int (nI (n))), (2, .ref (w)), (1, .ref (ad 0 0)), (0, .ref (b))]) hx hb dL_law_497 hl (by decide) rfl (fun ls hl => ?_)
  refine law_p5 C9 hI hn (S := S) (t := t) (xv := xv) hSt hq4 (cs := (((((((((((cs + 1) + 24) + 1) + 1) + 12) + 16) + 1) + 24) + 1) + 2) + 1)) (ss := (((((((((((ss + 6) + 144) + 6) + 6) + 72) + 96) + 6) + 144) + 6) + 12) + 6)) (by omega) (by omega) hS (lv_sub hl [0, 5, 6, 7, 8, 9, 10, 11] rfl) (fun locs ls hS hl => ?_)
  refine lv_aload_n hx hb dL_law_554 rfl (lv_at hl 4 rfl) ?_
  refine lv_iconst (v := nI 1) hx hb dL_law_555 (by decide) ?_
  refine lv_iload hx hb dL_law_556 (lv_at hl 0 rfl) ?_
  refine lv_bipush (v := nI 6) hx hb dL_law_558 (by decide) ?_
  refine lv_ishr hx hb dL_law_560 ?_
  refine lv_bipush (v := nI 6) hx hb dL_law_561 (by decide) ?_
  have hlt563 : belN (xv >>> (nI 6 &&& 31)) (6) < 6 := bel_lt _ (by omega)
  refine xcRi (va_runS (As := [.int (xv >>> (nI 6 &&& 31)), .int (nI 6)]) (rest := [.int (nI 1), .ref (ad 0 0)]) ⟨hx, hb, hml, hown, hts⟩ (c_L_below l D cA e0 (lwA s) H6 (xv >>> (nI 6 &&& 31)) (6) (by omega) (by omega)) ⟨(callB_of 2 hts gi_L_below rfl rfl rfl (hts _ q_ini_L) (hts _ q_ml_L_15) hd_L_below ⟨Nat.le_of_ble_eq_true rfl, Nat.le_of_ble_eq_true rfl⟩), hts _ q_st_L_below⟩ (xpS hE hS) rfl rfl hl.1 rfl (lv_room (Nat.le_of_ble_eq_true rfl)) dL_law_563 ⟨(show ((((((((((((cs + 1) + 24) + 1) + 1) + 12) + 16) + 1) + 24) + 1) + 2) + 1) + 36) + 0 ≤ 626463 by omega), (show ((((((((((((ss + 6) + 144) + 6) + 6) + 72) + 96) + 6) + 144) + 6) + 12) + 6) + 216) + 0 ≤ 7222236 by omega)⟩) ?_
  refine lv_iadd hx hb dL_law_566 ?_
  refine xtop (show ((nI 1) + (nI (belN (xv >>> (nI 6 &&& 31)) (6)))) = nI (1 + (belN (xv >>> (nI 6 &&& 31)) (6))) from nI_add 1 (belN (xv >>> (nI 6 &&& 31)) (6))) ?_
  obtain ⟨pd, h_pd⟩ : ∃ z, z = 1 + (belN (xv >>> (nI 6 &&& 31)) (6)) := ⟨_, rfl⟩
  refine xtop (show (nI (1 + (belN (xv >>> (nI 6 &&& 31)) (6)))) = nI (pd) from by rw [h_pd]) ?_
  have hpd1 : 1 ≤ pd := by omega
  have hpd6 : pd ≤ 6 := by omega
  have hokd : okR 1 30 (nI (pd)) := ⟨pd, by omega, by omega, rfl⟩
  have hsum : sumI (g5 13 0) (nI (pd)) ≤ 999 := by
    unfold sumI
    rw [hday5, nI_toInt (by omega), nI_toInt (by omega)]
    omega
  refine xcXi (vx_runV (As := [.int (nI (pd))]) (rest := []) ⟨hx, hb, hml, hown, hts⟩ (c_X4_pass l D cA e0 Fc H6 ad g5 t5 N hX (nI (pd)) hA (by rw [hN]; exact hIv) (fun k hk => absurd hk (by rw [hN1]; exact Nat.not_lt_zero _)) ⟨d, by omega, hday5⟩ hl9) ⟨(callB_of 1 hts gi_X4_pass rfl rfl rfl (hts _ q_ini_X4) (hts _ q_ml_L_98) hd_X4_pass ⟨Nat.le_of_ble_eq_true rfl, Nat.le_of_ble_eq_true rfl⟩), hts _ q_im_X4_pass, hts _ q_sel_X4_X4_pass⟩ (xpVn hE hS hFF (hX.main) rfl) rfl rfl hl.1 rfl (lv_room (Nat.le_of_ble_eq_true rfl)) dL_law_567 ⟨(show ((((((((((((cs + 1) + 24) + 1) + 1) + 12) + 16) + 1) + 24) + 1) + 2) + 1) + 36) + 1 ≤ 626463 by omega), (show ((((((((((((ss + 6) + 144) + 6) + 6) + 72) + 96) + 6) + 144) + 6) + 12) + 6) + 216) + 6 ≤ 7222236 by omega)⟩) hS hFF (fun E9 ce9 q9 H9 locs9 hPX9 hz9 hk9 hS9 hc9 hv9 hcl9 => ?_) (fun r_8 H8 locs hP9 hz9 hk9 hS => ?_)
  · exact (hPX9.elim (fun z => z.2 hokd) (fun z => z.2.2 hsum)).elim
  obtain ⟨-, ad2, g6, N6, hX6, hA6, p2, p3, p4, p5, -⟩ := hP9
  rw [cl_nI (n := pd) (by omega)] at p2 p3
  obtain ⟨hI, hday6⟩ := pI_ps (k := pd) hI hday5 hX6 hA6 p2 p3 p4 (hk9 _ hWa.lt hwF)
  rw [show ad 0 0 = ad2 0 0 from by rw [p5 0 (by omega)]] at hl
  refine lv_pop hx hb dL_law_570 rfl ?_
  refine W.widen (k := cs + 200) (n := ss + 1200) (by omega) (by omega) ?_
  exact K ad2 g6 t5 N6 _ _ _ (d + pd) (by omega) (by omega) hday6 hI hS (lv_sub hl [1, 2, 3, 4, 5] rfl)
