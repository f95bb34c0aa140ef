/-! The law's loops over the machines (by p45.py) -/
set_option maxHeartbeats 4000000 in
set_option maxRecDepth 100000 in
/-- what the best round gains and lacks -/
theorem law_p1 {p : Program} {l : Launch} {e : Env} {s : State} {m : MethodId} {below : List Frame} {meth : Method} {c : Code} {b L : Nat} {xs : Nat → Int32} {D : va_G} {cA : Nat → ClassId} {e0 w : Nat} {Fc : Nat → Prop} (C : lwC p l s m meth c b L xs D cA e0 w Fc) {ad : Nat → Nat → Nat} {g : Nat → Nat → Int32} {tt : Nat → Int64} {N : Nat → Nat} {H : Heap} {n : Nat} (hI : pI D cA e0 Fc w ad g tt N H n) (hn : n ≤ 6) {S lim load t : Nat} {xv : Int32} (hSt : S < 2 ^ n) {cs ss : Nat} (hcs : cs ≤ 600000) (hss : ss ≤ 7000000) {locs : List Loc} {ls : Array Slot} (hS : va_S (lwA s) s.heap H locs) (hl : lv_has ls 23 [(11, .int (nI 0)), (10, .int (nI 0)), (9, .int (nI 0)), (8, .int (nI (S))), (7, .int (nI (load))), (6, .int (nI (lim))), (5, .int (xv)), (4, .int (nI (t))), (3, .int (nI (n))), (2, .ref (w)), (1, .ref (ad 0 0)), (0, .ref (b))]) (K : ∀ (locs : List Loc) (ls : Array Slot), va_S (lwA s) s.heap H locs → lv_has ls 23 [(10, .int (selF S (lackF g) n)), (9, .int (selF S (gainF g) n)), (8, .int (nI (S))), (7, .int (nI (load))), (6, .int (nI (lim))), (5, .int (xv)), (4, .int (nI (t))), (3, .int (nI (n))), (2, .ref (w)), (1, .ref (ad 0 0)), (0, .ref (b))] → W p l e room_1 s m #[Value.ref b] below meth c H locs (cs + 24) (ss + 144) (lw_Z below #[Value.ref b] s) (F0 m 148 ls [])) : W p l e room_1 s m #[Value.ref b] below meth c H locs cs ss (lw_Z below #[Value.ref b] s) (F0 m 99 ls []) := by
  obtain ⟨hx, hb, hr, hml, hown, hE, hXs, hbl, hlocks, hLb, hl9, hFF, hwF⟩ := C
  have hts := hE.1.all #[Value.ref b]
  have hK := hE.2.1
  have hbA : ¬ lwA s b := Nat.not_le.mpr hbl
  have h256 := pow256 (show n ≤ 8 by omega)
  have hpp := Nat.two_pow_pos n
  have hLm : L < 2 ^ 31 := by omega
  obtain ⟨hX, hA, hN, hN1, hIv, hW, hBx, hWa, h80⟩ := id hI
  have LOOP99 : ∀ (n99 : Nat) (i : Nat) (locs : List Loc) (ls : Array Slot), (i ≤ n) → va_S (lwA s) s.heap H locs → (n - i) < n99 → lv_has ls 23 [(11, .int (nI (i))), (10, .int (selF S (lackF g) i)), (9, .int (selF S (gainF g) i)), (8, .int (nI (S))), (7, .int (nI (load))), (6, .int (nI (lim))), (5, .int (xv)), (4, .int (nI (t))), (3, .int (nI (n))), (2, .ref (w)), (1, .ref (ad 0 0)), (0, .ref (b))] → W p l e room_1 s m #[Value.ref b] below meth c H locs (cs + 4 * i) (ss + 24 * i) (lw_Z below #[Value.ref b] s) (F0 m 99 ls []) := by
    intro n99
    induction n99 with
    | zero => intro i locs ls hi hS hmeas hl; exact absurd hmeas (Nat.not_lt_zero _)
    | succ n99 ih99 =>
      intro i locs ls hi hS hmeas hl
      refine lv_iload hx hb dL_law_99 (lv_at hl 0 rfl) ?_
      refine lv_iload_n hx hb dL_law_101 rfl (lv_at hl 8 rfl) ?_
      refine lv_icmp_ge (tgt := 148) hx hb dL_law_102 (by decide) (fun c102 => ?_) (fun c102 => ?_)
      · have c102 : n ≤ i := (nI_leI (a := n) (b := i) (by omega) (by omega)).mp c102
        have hi9 : i = n := by omega
        rw [hi9] at hl
        refine W.widen (k := cs + 24) (n := ss + 144) (by omega) (by omega) ?_
        exact K _ _ hS (lv_sub hl [1, 2, 3, 4, 5, 6, 7, 8, 9, 10, 11] rfl)
      · have c102 : ¬ (n ≤ i) := fun z => c102 ((nI_leI (a := n) (b := i) (by omega) (by omega)).mpr z)
        refine lv_iload hx hb dL_law_105 (lv_at hl 3 rfl) ?_
        refine lv_iload hx hb dL_law_107 (lv_at hl 0 rfl) ?_
        refine lv_ishr hx hb dL_law_109 ?_
        refine lv_iconst (v := nI 1) hx hb dL_law_110 (by decide) ?_
        refine lv_iand hx hb dL_law_111 ?_
        refine xtop (show (((nI (S)) >>> (nI (i) &&& 31)) &&& (nI 1)) = if S.testBit i = true then nI 1 else nI 0 from p_bit S (by omega) i (by omega)) ?_
        refine lv_if_ne (tgt := 118) hx hb dL_law_112 (by decide) (fun c112 => ?_) (fun c112 => ?_)
        · have hbit := bit_t c112
          refine lv_iload hx hb dL_law_118 (lv_at hl 2 rfl) ?_
          refine lv_aload_n hx hb dL_law_120 rfl (lv_at hl 10 rfl) ?_
          refine lv_iload hx hb dL_law_121 (lv_at hl 0 rfl) ?_
          refine lv_iconst (v := nI 3) hx hb dL_law_123 (by decide) ?_
          refine xcXi (vx_runV (As := [.int (nI (i)), .int (nI 3)]) (rest := [.int (selF S (gainF g) i)]) ⟨hx, hb, hml, hown, hts⟩ (c_X4_machine l D cA e0 Fc H ad g tt N hX (nI (i)) (nI 3) hA hl9) ⟨(callB_of 2 hts gi_X4_machine rfl rfl rfl (hts _ q_ini_X4) (hts _ q_ml_L_64) hd_X4_machine ⟨Nat.le_of_ble_eq_true rfl, Nat.le_of_ble_eq_true rfl⟩), hts _ q_im_X4_machine, hts _ q_sel_X4_X4_machine⟩ (xpVn hE hS hFF (hX.main) rfl) rfl rfl hl.1 rfl (lv_room (Nat.le_of_ble_eq_true rfl)) dL_law_124 ⟨(show (cs + 4 * i) + 2 ≤ 626463 by omega), (show (ss + 24 * i) + 12 ≤ 7222236 by omega)⟩) hS hFF (fun E9 ce9 q9 H9 locs9 hPX9 hz9 hk9 hS9 hc9 hv9 hcl9 => ?_) (fun r_1 H1 locs hP9 hz9 hk9 hS => ?_)
          · exact (hPX9.2 ⟨⟨i, by omega, rfl⟩, 3, by omega, rfl⟩).elim
          obtain ⟨hh9, -, hr9⟩ := hP9
          rw [hh9] at hS ⊢
          have hr9 : r_1 = gainF g i := hr9.trans (mF g (i := i) (w := 3) (by omega) (by omega))
          rw [hr9]
          refine lv_iadd hx hb dL_law_127 ?_
          refine xtop (show ((selF S (gainF g) i) + (gainF g i)) = selF S (gainF g) (i + 1) from (selF_yes hbit).symm) ?_
          refine lv_istore (lv' := [(9, .int (selF S (gainF g) (i + 1))), (11, .int (nI (i))), (10, .int (selF S (lackF g) i)), (8, .int (nI (S))), (7, .int (nI (load))), (6, .int (nI (lim))), (5, .int (xv)), (4, .int (nI (t))), (3, .int (nI (n))), (2, .ref (w)), (1, .ref (ad 0 0)), (0, .ref (b))]) hx hb dL_law_128 hl (by decide) rfl (fun ls hl => ?_)
          refine lv_iload hx hb dL_law_130 (lv_at hl 2 rfl) ?_
          refine lv_aload_n hx hb dL_law_132 rfl (lv_at hl 10 rfl) ?_
          refine lv_iload hx hb dL_law_133 (lv_at hl 1 rfl) ?_
          refine lv_iconst (v := nI 2) hx hb dL_law_135 (by decide) ?_
          refine xcXi (vx_runV (As := [.int (nI (i)), .int (nI 2)]) (rest := [.int (selF S (lackF g) i)]) ⟨hx, hb, hml, hown, hts⟩ (c_X4_machine l D cA e0 Fc H ad g tt N hX (nI (i)) (nI 2) hA hl9) ⟨(callB_of 2 hts gi_X4_machine rfl rfl rfl (hts _ q_ini_X4) (hts _ q_ml_L_64) hd_X4_machine ⟨Nat.le_of_ble_eq_true rfl, Nat.le_of_ble_eq_true rfl⟩), hts _ q_im_X4_machine, hts _ q_sel_X4_X4_machine⟩ (xpVn hE hS hFF (hX.main) rfl) rfl rfl hl.1 rfl (lv_room (Nat.le_of_ble_eq_true rfl)) dL_law_136 ⟨(show ((cs + 4 * i) + 2) + 2 ≤ 626463 by omega), (show ((ss + 24 * i) + 12) + 12 ≤ 7222236 by omega)⟩) hS hFF (fun E9 ce9 q9 H9 locs9 hPX9 hz9 hk9 hS9 hc9 hv9 hcl9 => ?_) (fun r_2 H2 locs hP9 hz9 hk9 hS => ?_)
          · exact (hPX9.2 ⟨⟨i, by omega, rfl⟩, 2, by omega, rfl⟩).elim
          obtain ⟨hh9, -, hr9⟩ := hP9
          rw [hh9] at hS ⊢
          have hr9 : r_2 = lackF g i := hr9.trans (mF g (i := i) (w := 2) (by omega) (by omega))
          rw [hr9]
          refine lv_iadd hx hb dL_law_139 ?_
          refine xtop (show ((selF S (lackF g) i) + (lackF g i)) = selF S (lackF g) (i + 1) from (selF_yes hbit).symm) ?_
          refine lv_istore (lv' := [(10, .int (selF S (lackF g) (i + 1))), (9, .int (selF S (gainF g) (i + 1))), (11, .int (nI (i))), (8, .int (nI (S))), (7, .int (nI (load))), (6, .int (nI (lim))), (5, .int (xv)), (4, .int (nI (t))), (3, .int (nI (n))), (2, .ref (w)), (1, .ref (ad 0 0)), (0, .ref (b))]) hx hb dL_law_140 hl (by decide) rfl (fun ls hl => ?_)
          refine lv_iinc (v := nI (i + 1)) (lv' := [(11, .int (nI (i + 1))), (10, .int (selF S (lackF g) (i + 1))), (9, .int (selF S (gainF g) (i + 1))), (8, .int (nI (S))), (7, .int (nI (load))), (6, .int (nI (lim))), (5, .int (xv)), (4, .int (nI (t))), (3, .int (nI (n))), (2, .ref (w)), (1, .ref (ad 0 0)), (0, .ref (b))]) hx hb dL_law_142 hl (k := 2) rfl (nI_add i 1) (by decide) rfl (fun ls hl => ?_)
          refine lv_goto (tgt := 99) hx hb dL_law_145 (by decide) ?_
          refine W.widen (k := cs + 4 * (i + 1)) (n := ss + 24 * (i + 1)) (by omega) (by omega) ?_
          exact ih99 (i + 1) locs _ (by omega) hS (by omega) (lv_sub hl [0, 1, 2, 3, 4, 5, 6, 7, 8, 9, 10, 11] rfl)
        · have hbit := bit_f c112
          rw [show selF S (lackF g) i = selF S (lackF g) (i + 1) from (selF_no hbit).symm, show selF S (gainF g) i = selF S (gainF g) (i + 1) from (selF_no hbit).symm] at hl
          refine lv_goto (tgt := 142) hx hb dL_law_115 (by decide) ?_
          refine lv_iinc (v := nI (i + 1)) (lv' := [(11, .int (nI (i + 1))), (10, .int (selF S (lackF g) (i + 1))), (9, .int (selF S (gainF g) (i + 1))), (8, .int (nI (S))), (7, .int (nI (load))), (6, .int (nI (lim))), (5, .int (xv)), (4, .int (nI (t))), (3, .int (nI (n))), (2, .ref (w)), (1, .ref (ad 0 0)), (0, .ref (b))]) hx hb dL_law_142 hl (k := 0) rfl (nI_add i 1) (by decide) rfl (fun ls hl => ?_)
          refine lv_goto (tgt := 99) hx hb dL_law_145 (by decide) ?_
          refine W.widen (k := cs + 4 * (i + 1)) (n := ss + 24 * (i + 1)) (by omega) (by omega) ?_
          exact ih99 (i + 1) locs _ (by omega) hS (by omega) (lv_sub hl [0, 1, 2, 3, 4, 5, 6, 7, 8, 9, 10, 11] rfl)
  refine W.widen (k := cs + 4 * 0) (n := ss + 24 * 0) (by omega) (by omega) ?_
  exact LOOP99 _ 0 locs _ (Nat.zero_le _) hS (Nat.lt_succ_self _) (lv_sub hl [0, 1, 2, 3, 4, 5, 6, 7, 8, 9, 10, 11] rfl)
set_option maxHeartbeats 4000000 in
set_option maxRecDepth 100000 in
/-- what the best round with more of both gains -/
theorem law_p2 {p : Program} {l : Launch} {e : Env} {s : State} {m : MethodId} {below : List Frame} {meth : Method} {c : Code} {b L : Nat} {xs : Nat → Int32} {D : va_G} {cA : Nat → ClassId} {e0 w : Nat} {Fc : Nat → Prop} (C : lwC p l s m meth c b L xs D cA e0 w Fc) {ad : Nat → Nat → Nat} {g : Nat → Nat → Int32} {tt : Nat → Int64} {N : Nat → Nat} {H : Heap} {n : Nat} (hI : pI D cA e0 Fc w ad g tt N H n) (hn : n ≤ 6) {S t : Nat} {xv G : Int32} (hSt : S < 2 ^ n) {cs ss : Nat} (hcs : cs ≤ 600000) (hss : ss ≤ 7000000) {locs : List Loc} {ls : Array Slot} (hS : va_S (lwA s) s.heap H locs) (hl : lv_has ls 23 [(13, .int (nI 0)), (12, .int (nI 0)), (11, .int (nI (S))), (9, .int (G)), (5, .int (xv)), (4, .int (nI (t))), (3, .int (nI (n))), (2, .ref (w)), (1, .ref (ad 0 0)), (0, .ref (b))]) (K : ∀ (locs : List Loc) (ls : Array Slot), va_S (lwA s) s.heap H locs → lv_has ls 23 [(12, .int (selF S (gainF g) n)), (9, .int (G)), (5, .int (xv)), (4, .int (nI (t))), (3, .int (nI (n))), (2, .ref (w)), (1, .ref (ad 0 0)), (0, .ref (b))] → W p l e room_1 s m #[Value.ref b] below meth c H locs (cs + 12) (ss + 72) (lw_Z below #[Value.ref b] s) (F0 m 244 ls [])) : W p l e room_1 s m #[Value.ref b] below meth c H locs cs ss (lw_Z below #[Value.ref b] s) (F0 m 205 ls []) := by
  obtain ⟨hx, hb, hr, hml, hown, hE, hXs, hbl, hlocks, hLb, hl9, hFF, hwF⟩ := C
  have hts := hE.1.all #[Value.ref b]
  have hK := hE.2.1
  have hbA : ¬ lwA s b := Nat.not_le.mpr hbl
  have h256 := pow256 (show n ≤ 8 by omega)
  have hpp := Nat.two_pow_pos n
  have hLm : L < 2 ^ 31 := by omega
  obtain ⟨hX, hA, hN, hN1, hIv, hW, hBx, hWa, h80⟩ := id hI
  have LOOP205 : ∀ (n205 : Nat) (i : Nat) (locs : List Loc) (ls : Array Slot), (i ≤ n) → va_S (lwA s) s.heap H locs → (n - i) < n205 → lv_has ls 23 [(13, .int (nI (i))), (12, .int (selF S (gainF g) i)), (11, .int (nI (S))), (9, .int (G)), (5, .int (xv)), (4, .int (nI (t))), (3, .int (nI (n))), (2, .ref (w)), (1, .ref (ad 0 0)), (0, .ref (b))] → W p l e room_1 s m #[Value.ref b] below meth c H locs (cs + 2 * i) (ss + 12 * i) (lw_Z below #[Value.ref b] s) (F0 m 205 ls []) := by
    intro n205
    induction n205 with
    | zero => intro i locs ls hi hS hmeas hl; exact absurd hmeas (Nat.not_lt_zero _)
    | succ n205 ih205 =>
      intro i locs ls hi hS hmeas hl
      refine lv_iload hx hb dL_law_205 (lv_at hl 0 rfl) ?_
      refine lv_iload_n hx hb dL_law_207 rfl (lv_at hl 6 rfl) ?_
      refine lv_icmp_ge (tgt := 244) hx hb dL_law_208 (by decide) (fun c208 => ?_) (fun c208 => ?_)
      · have c208 : n ≤ i := (nI_leI (a := n) (b := i) (by omega) (by omega)).mp c208
        have hi9 : i = n := by omega
        rw [hi9] at hl
        refine W.widen (k := cs + 12) (n := ss + 72) (by omega) (by omega) ?_
        exact K _ _ hS (lv_sub hl [1, 3, 4, 5, 6, 7, 8, 9] rfl)
      · have c208 : ¬ (n ≤ i) := fun z => c208 ((nI_leI (a := n) (b := i) (by omega) (by omega)).mpr z)
        refine lv_iload hx hb dL_law_211 (lv_at hl 1 rfl) ?_
        refine lv_iload hx hb dL_law_213 (lv_at hl 2 rfl) ?_
        refine lv_iload hx hb dL_law_215 (lv_at hl 0 rfl) ?_
        refine lv_ishr hx hb dL_law_217 ?_
        refine lv_iconst (v := nI 1) hx hb dL_law_218 (by decide) ?_
        refine lv_iand hx hb dL_law_219 ?_
        refine xtop (show (((nI (S)) >>> (nI (i) &&& 31)) &&& (nI 1)) = if S.testBit i = true then nI 1 else nI 0 from p_bit S (by omega) i (by omega)) ?_
        refine lv_iconst (v := nI 1) hx hb dL_law_220 (by decide) ?_
        refine lv_icmp_ne (tgt := 234) hx hb dL_law_221 (by decide) (fun c221 => ?_) (fun c221 => ?_)
        · have hbit := bit_f1 c221
          refine lv_iconst (v := nI 0) hx hb dL_law_234 (by decide) ?_
          refine lv_iadd hx hb dL_law_235 ?_
          refine xtop (show ((selF S (gainF g) i) + (nI 0)) = selF S (gainF g) (i + 1) from (by rw [selF_no hbit]; exact Int32.add_zero _)) ?_
          refine lv_istore (lv' := [(12, .int (selF S (gainF g) (i + 1))), (13, .int (nI (i))), (11, .int (nI (S))), (9, .int (G)), (5, .int (xv)), (4, .int (nI (t))), (3, .int (nI (n))), (2, .ref (w)), (1, .ref (ad 0 0)), (0, .ref (b))]) hx hb dL_law_236 hl (by decide) rfl (fun ls hl => ?_)
          refine lv_iinc (v := nI (i + 1)) (lv' := [(13, .int (nI (i + 1))), (12, .int (selF S (gainF g) (i + 1))), (11, .int (nI (S))), (9, .int (G)), (5, .int (xv)), (4, .int (nI (t))), (3, .int (nI (n))), (2, .ref (w)), (1, .ref (ad 0 0)), (0, .ref (b))]) hx hb dL_law_238 hl (k := 1) rfl (nI_add i 1) (by decide) rfl (fun ls hl => ?_)
          refine lv_goto (tgt := 205) hx hb dL_law_241 (by decide) ?_
          refine W.widen (k := cs + 2 * (i + 1)) (n := ss + 12 * (i + 1)) (by omega) (by omega) ?_
          exact ih205 (i + 1) locs _ (by omega) hS (by omega) (lv_sub hl [0, 1, 2, 3, 4, 5, 6, 7, 8, 9] rfl)
        · have hbit := bit_t1 c221
          refine lv_aload_n hx hb dL_law_224 rfl (lv_at hl 8 rfl) ?_
          refine lv_iload hx hb dL_law_225 (lv_at hl 0 rfl) ?_
          refine lv_iconst (v := nI 3) hx hb dL_law_227 (by decide) ?_
          refine xcXi (vx_runV (As := [.int (nI (i)), .int (nI 3)]) (rest := [.int (selF S (gainF g) i)]) ⟨hx, hb, hml, hown, hts⟩ (c_X4_machine l D cA e0 Fc H ad g tt N hX (nI (i)) (nI 3) hA hl9) ⟨(callB_of 2 hts gi_X4_machine rfl rfl rfl (hts _ q_ini_X4) (hts _ q_ml_L_64) hd_X4_machine ⟨Nat.le_of_ble_eq_true rfl, Nat.le_of_ble_eq_true rfl⟩), hts _ q_im_X4_machine, hts _ q_sel_X4_X4_machine⟩ (xpVn hE hS hFF (hX.main) rfl) rfl rfl hl.1 rfl (lv_room (Nat.le_of_ble_eq_true rfl)) dL_law_228 ⟨(show (cs + 2 * i) + 2 ≤ 626463 by omega), (show (ss + 12 * i) + 12 ≤ 7222236 by omega)⟩) hS hFF (fun E9 ce9 q9 H9 locs9 hPX9 hz9 hk9 hS9 hc9 hv9 hcl9 => ?_) (fun r_1 H1 locs hP9 hz9 hk9 hS => ?_)
          · exact (hPX9.2 ⟨⟨i, by omega, rfl⟩, 3, by omega, rfl⟩).elim
          obtain ⟨hh9, -, hr9⟩ := hP9
          rw [hh9] at hS ⊢
          have hr9 : r_1 = gainF g i := hr9.trans (mF g (i := i) (w := 3) (by omega) (by omega))
          rw [hr9]
          refine lv_goto (tgt := 235) hx hb dL_law_231 (by decide) ?_
          refine lv_iadd hx hb dL_law_235 ?_
          refine xtop (show ((selF S (gainF g) i) + (gainF g i)) = selF S (gainF g) (i + 1) from (selF_yes hbit).symm) ?_
          refine lv_istore (lv' := [(12, .int (selF S (gainF g) (i + 1))), (13, .int (nI (i))), (11, .int (nI (S))), (9, .int (G)), (5, .int (xv)), (4, .int (nI (t))), (3, .int (nI (n))), (2, .ref (w)), (1, .ref (ad 0 0)), (0, .ref (b))]) hx hb dL_law_236 hl (by decide) rfl (fun ls hl => ?_)
          refine lv_iinc (v := nI (i + 1)) (lv' := [(13, .int (nI (i + 1))), (12, .int (selF S (gainF g) (i + 1))), (11, .int (nI (S))), (9, .int (G)), (5, .int (xv)), (4, .int (nI (t))), (3, .int (nI (n))), (2, .ref (w)), (1, .ref (ad 0 0)), (0, .ref (b))]) hx hb dL_law_238 hl (k := 1) rfl (nI_add i 1) (by decide) rfl (fun ls hl => ?_)
          refine lv_goto (tgt := 205) hx hb dL_law_241 (by decide) ?_
          refine W.widen (k := cs + 2 * (i + 1)) (n := ss + 12 * (i + 1)) (by omega) (by omega) ?_
          exact ih205 (i + 1) locs _ (by omega) hS (by omega) (lv_sub hl [0, 1, 2, 3, 4, 5, 6, 7, 8, 9] rfl)
  refine W.widen (k := cs + 2 * 0) (n := ss + 12 * 0) (by omega) (by omega) ?_
  exact LOOP205 _ 0 locs _ (Nat.zero_le _) hS (Nat.lt_succ_self _) (lv_sub hl [0, 1, 2, 3, 4, 5, 6, 7, 8, 9] rfl)
set_option maxHeartbeats 4000000 in
set_option maxRecDepth 100000 in
/-- the visits -/
theorem law_p3 {p : Program} {l : Launch} {e : Env} {s : State} {m : MethodId} {below : List Frame} {meth : Method} {c : Code} {b L : Nat} {xs : Nat → Int32} {D : va_G} {cA : Nat → ClassId} {e0 w : Nat} {Fc : Nat → Prop} (C : lwC p l s m meth c b L xs D cA e0 w Fc) {ad : Nat → Nat → Nat} {g : Nat → Nat → Int32} {tt : Nat → Int64} {N : Nat → Nat} {H : Heap} {n : Nat} (hI : pI D cA e0 Fc w ad g tt N H n) (hn : n ≤ 6) {S t : Nat} {xv : Int32} (hSt : S < 2 ^ n) {cs ss : Nat} (hcs : cs ≤ 600000) (hss : ss ≤ 7000000) {locs : List Loc} {ls : Array Slot} (hS : va_S (lwA s) s.heap H locs) (hl : lv_has ls 23 [(17, .int (nI 0)), (16, .int (nI 0)), (15, .int (nI 0)), (14, .int (nI 8)), (13, .int (nI (S))), (5, .int (xv)), (4, .int (nI (t))), (3, .int (nI (n))), (2, .ref (w)), (1, .ref (ad 0 0)), (0, .ref (b))]) (K : ∀ (locs : List Loc) (ls : Array Slot), va_S (lwA s) s.heap H locs → lv_has ls 23 [(15, .int (drvF (wy g) S (bc S))), (14, .int (nI ((vs (wy g) S (bc S)).2))), (13, .int (nI (S))), (5, .int (xv)), (4, .int (nI (t))), (3, .int (nI (n))), (2, .ref (w)), (1, .ref (ad 0 0)), (0, .ref (b))] → W p l e room_1 s m #[Value.ref b] below meth c H locs (cs + 16) (ss + 96) (lw_Z below #[Value.ref b] s) (F0 m 356 ls [])) : W p l e room_1 s m #[Value.ref b] below meth c H locs cs ss (lw_Z below #[Value.ref b] s) (F0 m 279 ls []) := by
  obtain ⟨hx, hb, hr, hml, hown, hE, hXs, hbl, hlocks, hLb, hl9, hFF, hwF⟩ := C
  have hts := hE.1.all #[Value.ref b]
  have hK := hE.2.1
  have hbA : ¬ lwA s b := Nat.not_le.mpr hbl
  have h256 := pow256 (show n ≤ 8 by omega)
  have hpp := Nat.two_pow_pos n
  have hLm : L < 2 ^ 31 := by omega
  obtain ⟨hX, hA, hN, hN1, hIv, hW, hBx, hWa, h80⟩ := id hI
  have hb8 := bc_le S (by omega)
  have LOOP279 : ∀ (n279 : Nat) (k : Nat) (locs : List Loc) (ls : Array Slot), (k ≤ bc S) → va_S (lwA s) s.heap H locs → (bc S - k) < n279 → lv_has ls 23 [(17, .int (nI (k))), (16, .int (nI (seenN (wy g) S k))), (15, .int (drvF (wy g) S k)), (14, .int (nI ((vs (wy g) S k).2))), (13, .int (nI (S))), (5, .int (xv)), (4, .int (nI (t))), (3, .int (nI (n))), (2, .ref (w)), (1, .ref (ad 0 0)), (0, .ref (b))] → W p l e room_1 s m #[Value.ref b] below meth c H locs (cs + 2 * k) (ss + 12 * k) (lw_Z below #[Value.ref b] s) (F0 m 279 ls []) := by
    intro n279
    induction n279 with
    | zero => intro k locs ls hk hS hmeas hl; exact absurd hmeas (Nat.not_lt_zero _)
    | succ n279 ih279 =>
      intro k locs ls hk hS hmeas hl
      refine lv_iload hx hb dL_law_279 (lv_at hl 0 rfl) ?_
      refine lv_iload hx hb dL_law_281 (lv_at hl 4 rfl) ?_
      refine xcRi (va_runS (As := [.int (nI (S))]) (rest := [.int (nI (k))]) ⟨hx, hb, hml, hown, hts⟩ (c_J6_bitCount_0f7a4 l D cA e0 (lwA s) H S (by omega)) ⟨(callB_of 1 hts gi_J6_bitCount_0f7a4 rfl rfl rfl (hts _ q_ini_J6) (hts _ q_ml_L_59) hd_J6_bitCount_0f7a4 ⟨Nat.le_of_ble_eq_true rfl, Nat.le_of_ble_eq_true rfl⟩), hts _ q_st_J6_bitCount_0f7a4⟩ (xpS hE hS) rfl rfl hl.1 rfl (lv_room (Nat.le_of_ble_eq_true rfl)) dL_law_283 ⟨(show (cs + 2 * k) + 0 ≤ 626463 by omega), (show (ss + 12 * k) + 0 ≤ 7222236 by omega)⟩) ?_
      refine lv_icmp_ge (tgt := 356) hx hb dL_law_286 (by decide) (fun c286 => ?_) (fun c286 => ?_)
      · have c286 : (bc S) ≤ k := (nI_leI (a := bc S) (b := k) (by omega) (by omega)).mp c286
        have hi9 : k = bc S := by omega
        rw [hi9] at hl
        refine W.widen (k := cs + 16) (n := ss + 96) (by omega) (by omega) ?_
        exact K _ _ hS (lv_sub hl [2, 3, 4, 5, 6, 7, 8, 9, 10] rfl)
      · have c286 : ¬ ((bc S) ≤ k) := fun z => c286 ((nI_leI (a := bc S) (b := k) (by omega) (by omega)).mpr z)
        have hk1 : k < bc S := by omega
        obtain ⟨v1, v2, v3, v4⟩ := vs_next (wy g) (k := k) (show n ≤ 8 by omega) hSt hk1
        have v5 := vs_sub (wy g) (show n ≤ 8 by omega) hSt k hk _ (show (vs (wy g) S (k + 1)).2 < 8 by omega) v4
        obtain ⟨v6, v7⟩ := seen_ok (wy g) (show n ≤ 8 by omega) hSt k hk
        have v8 := v7 _ (show (vs (wy g) S (k + 1)).2 < 8 by omega) v4
        have v9 := vs_at (wy g) (show n ≤ 8 by omega) hSt k hk
        refine lv_aload_n hx hb dL_law_289 rfl (lv_at hl 9 rfl) ?_
        refine lv_iload hx hb dL_law_290 (lv_at hl 4 rfl) ?_
        refine lv_iload hx hb dL_law_292 (lv_at hl 0 rfl) ?_
        have hokv : okT (N 0) (nI S) ∧ okV (nI S) (nI k) := ⟨⟨S, by rw [hN]; exact hSt, rfl⟩, k, by rw [cl_nI (n := S) (by omega)]; omega, rfl⟩
        refine xcXi (vx_runV (As := [.int (nI (S)), .int (nI (k))]) (rest := []) ⟨hx, hb, hml, hown, hts⟩ (c_X4_visit l D cA e0 Fc H ad g tt N hX (nI S) (nI k) hA (by rw [hN]; exact hW) hl9) ⟨(callB_of 2 hts gi_X4_visit rfl rfl rfl (hts _ q_ini_X4) (hts _ q_ml_L_85) hd_X4_visit ⟨Nat.le_of_ble_eq_true rfl, Nat.le_of_ble_eq_true rfl⟩), hts _ q_im_X4_visit, hts _ q_sel_X4_X4_visit⟩ (xpVn hE hS hFF (hX.main) rfl) rfl rfl hl.1 rfl (lv_room (Nat.le_of_ble_eq_true rfl)) dL_law_294 ⟨(show (cs + 2 * k) + 2 ≤ 626463 by omega), (show (ss + 12 * k) + 12 ≤ 7222236 by omega)⟩) hS hFF (fun E9 ce9 q9 H9 locs9 hPX9 hz9 hk9 hS9 hc9 hv9 hcl9 => ?_) (fun r_1 H1 locs hP9 hz9 hk9 hS => ?_)
        · exact (hPX9.elim (fun z => z.2 hokv.1) (fun z => z.2.2 hokv.2)).elim
        obtain ⟨hh9, -, hr9⟩ := hP9
        rw [hh9] at hS ⊢
        rw [cl_nI (n := S) (by omega), cl_nI (n := k) (by omega)] at hr9
        rw [hr9]
        refine lv_istore (lv' := [(18, .int (nI ((vs (wy g) S (k + 1)).2))), (17, .int (nI (k))), (16, .int (nI (seenN (wy g) S k))), (15, .int (drvF (wy g) S k)), (14, .int (nI ((vs (wy g) S k).2))), (13, .int (nI (S))), (5, .int (xv)), (4, .int (nI (t))), (3, .int (nI (n))), (2, .ref (w)), (1, .ref (ad 0 0)), (0, .ref (b))]) hx hb dL_law_297 hl (by decide) rfl (fun ls hl => ?_)
        refine lv_iload hx hb dL_law_299 (lv_at hl 5 rfl) ?_
        refine lv_iload hx hb dL_law_301 (lv_at hl 0 rfl) ?_
        refine lv_ishr hx hb dL_law_303 ?_
        refine lv_iconst (v := nI 1) hx hb dL_law_304 (by decide) ?_
        refine lv_iand hx hb dL_law_305 ?_
        refine xtop (show (((nI (S)) >>> (nI ((vs (wy g) S (k + 1)).2) &&& 31)) &&& (nI 1)) = nI 1 from by rw [p_bit S (by omega) (vs (wy g) S (k + 1)).2 (by omega), if_pos v5]) ?_
        refine lv_if_eq (tgt := 320) hx hb dL_law_306 (by decide) (fun hno => absurd hno ((by decide))) (fun _ => ?_)
        refine lv_iload hx hb dL_law_309 (lv_at hl 2 rfl) ?_
        refine lv_iload hx hb dL_law_311 (lv_at hl 0 rfl) ?_
        refine lv_ishr hx hb dL_law_313 ?_
        refine lv_iconst (v := nI 1) hx hb dL_law_314 (by decide) ?_
        refine lv_iand hx hb dL_law_315 ?_
        refine xtop (show (((nI (seenN (wy g) S k)) >>> (nI ((vs (wy g) S (k + 1)).2) &&& 31)) &&& (nI 1)) = nI 0 from by rw [p_bit (seenN (wy g) S k) (by omega) (vs (wy g) S (k + 1)).2 (by omega), v8]; rfl) ?_
        refine lv_iconst (v := nI 1) hx hb dL_law_316 (by decide) ?_
        refine lv_icmp_ne (tgt := 322) hx hb dL_law_317 (by decide) (fun _ => ?_) (fun hno => absurd hno ((by decide)))
        refine lv_iload hx hb dL_law_322 (lv_at hl 2 rfl) ?_
        refine lv_iconst (v := nI 1) hx hb dL_law_324 (by decide) ?_
        refine lv_iload hx hb dL_law_325 (lv_at hl 0 rfl) ?_
        refine lv_ishl hx hb dL_law_327 ?_
        refine xtop (show ((nI 1) <<< (nI ((vs (wy g) S (k + 1)).2) &&& 31)) = nI (2 ^ (vs (wy g) S (k + 1)).2) from p_pw (vs (wy g) S (k + 1)).2 (by omega)) ?_
        refine lv_ior hx hb dL_law_328 ?_
        refine xtop (show ((nI (seenN (wy g) S k)) ||| (nI (2 ^ (vs (wy g) S (k + 1)).2))) = nI (seenN (wy g) S (k + 1)) from (p_or _ v6 (vs (wy g) S (k + 1)).2 (by omega)).1) ?_
        refine lv_istore (lv' := [(16, .int (nI (seenN (wy g) S (k + 1)))), (18, .int (nI ((vs (wy g) S (k + 1)).2))), (17, .int (nI (k))), (15, .int (drvF (wy g) S k)), (14, .int (nI ((vs (wy g) S k).2))), (13, .int (nI (S))), (5, .int (xv)), (4, .int (nI (t))), (3, .int (nI (n))), (2, .ref (w)), (1, .ref (ad 0 0)), (0, .ref (b))]) hx hb dL_law_329 hl (by decide) rfl (fun ls hl => ?_)
        refine lv_iload hx hb dL_law_331 (lv_at hl 3 rfl) ?_
        refine lv_aload_n hx hb dL_law_333 rfl (lv_at hl 9 rfl) ?_
        refine lv_bipush (v := nI 9) hx hb dL_law_334 (by decide) ?_
        refine lv_iload hx hb dL_law_336 (lv_at hl 4 rfl) ?_
        refine lv_imul hx hb dL_law_338 ?_
        refine xtop (show ((nI 9) * (nI ((vs (wy g) S k).2))) = nI (9 * ((vs (wy g) S k).2)) from pk_mul 9 ((vs (wy g) S k).2)) ?_
        refine lv_iload hx hb dL_law_339 (lv_at hl 1 rfl) ?_
        refine lv_iadd hx hb dL_law_341 ?_
        refine xtop (show ((nI (9 * ((vs (wy g) S k).2))) + (nI ((vs (wy g) S (k + 1)).2))) = nI ((9 * ((vs (wy g) S k).2)) + ((vs (wy g) S (k + 1)).2)) from nI_add (9 * ((vs (wy g) S k).2)) ((vs (wy g) S (k + 1)).2)) ?_
        refine va_iald hx hb hK (xP1 (hWa)) 0 0 rfl rfl (i := nI ((9 * ((vs (wy g) S k).2)) + ((vs (wy g) S (k + 1)).2))) (vp_in_nI (n := (9 * ((vs (wy g) S k).2)) + ((vs (wy g) S (k + 1)).2)) (by omega) (by omega)) dL_law_342 ?_
        refine xtop (show (g 3 (nI ((9 * ((vs (wy g) S k).2)) + ((vs (wy g) S (k + 1)).2))).toNatClampNeg) = g 3 ((9 * ((vs (wy g) S k).2)) + ((vs (wy g) S (k + 1)).2)) from by rw [nI_clamp (n := (9 * ((vs (wy g) S k).2)) + ((vs (wy g) S (k + 1)).2)) (by omega)]) ?_
        refine lv_iadd hx hb dL_law_343 ?_
        refine xtop (show ((drvF (wy g) S k) + (g 3 ((9 * ((vs (wy g) S k).2)) + ((vs (wy g) S (k + 1)).2)))) = drvF (wy g) S (k + 1) from rfl) ?_
        refine lv_istore (lv' := [(15, .int (drvF (wy g) S (k + 1))), (16, .int (nI (seenN (wy g) S (k + 1)))), (18, .int (nI ((vs (wy g) S (k + 1)).2))), (17, .int (nI (k))), (14, .int (nI ((vs (wy g) S k).2))), (13, .int (nI (S))), (5, .int (xv)), (4, .int (nI (t))), (3, .int (nI (n))), (2, .ref (w)), (1, .ref (ad 0 0)), (0, .ref (b))]) hx hb dL_law_344 hl (by decide) rfl (fun ls hl => ?_)
        refine lv_iload hx hb dL_law_346 (lv_at hl 2 rfl) ?_
        refine lv_istore (lv' := [(14, .int (nI ((vs (wy g) S (k + 1)).2))), (15, .int (drvF (wy g) S (k + 1))), (16, .int (nI (seenN (wy g) S (k + 1)))), (18, .int (nI ((vs (wy g) S (k + 1)).2))), (17, .int (nI (k))), (13, .int (nI (S))), (5, .int (xv)), (4, .int (nI (t))), (3, .int (nI (n))), (2, .ref (w)), (1, .ref (ad 0 0)), (0, .ref (b))]) hx hb dL_law_348 hl (by decide) rfl (fun ls hl => ?_)
        refine lv_iinc (v := nI (k + 1)) (lv' := [(17, .int (nI (k + 1))), (14, .int (nI ((vs (wy g) S (k + 1)).2))), (15, .int (drvF (wy g) S (k + 1))), (16, .int (nI (seenN (wy g) S (k + 1)))), (18, .int (nI ((vs (wy g) S (k + 1)).2))), (13, .int (nI (S))), (5, .int (xv)), (4, .int (nI (t))), (3, .int (nI (n))), (2, .ref (w)), (1, .ref (ad 0 0)), (0, .ref (b))]) hx hb dL_law_350 hl (k := 4) rfl (nI_add k 1) (by decide) rfl (fun ls hl => ?_)
        refine lv_goto (tgt := 279) hx hb dL_law_353 (by decide) ?_
        refine W.widen (k := cs + 2 * (k + 1)) (n := ss + 12 * (k + 1)) (by omega) (by omega) ?_
        exact ih279 (k + 1) locs _ (by omega) hS (by omega) (lv_sub hl [0, 3, 2, 1, 5, 6, 7, 8, 9, 10, 11] rfl)
  refine W.widen (k := cs + 2 * 0) (n := ss + 12 * 0) (by omega) (by omega) ?_
  exact LOOP279 _ 0 locs _ (Nat.zero_le _) hS (Nat.lt_succ_self _) (lv_sub hl [0, 1, 2, 3, 4, 5, 6, 7, 8, 9, 10] rfl)
set_option maxHeartbeats 4000000 in
set_option maxRecDepth 100000 in
/-- what the chosen machines lack, what their boxes hold -/
theorem law_p4 {p : Program} {l : Launch} {e : Env} {s : State} {m : MethodId} {below : List Frame} {meth : Method} {c : Code} {b L : Nat} {xs : Nat → Int32} {D : va_G} {cA : Nat → ClassId} {e0 w : Nat} {Fc : Nat → Prop} (C : lwC p l s m meth c b L xs D cA e0 w Fc) {ad : Nat → Nat → Nat} {g : Nat → Nat → Int32} {tt : Nat → Int64} {N : Nat → Nat} {H : Heap} {n : Nat} (hI : pI D cA e0 Fc w ad g tt N H n) (hn : n ≤ 6) {S t : Nat} {xv : Int32} (hSt : S < 2 ^ n) {cs ss : Nat} (hcs : cs ≤ 600000) (hss : ss ≤ 7000000) {locs : List Loc} {ls : Array Slot} (hS : va_S (lwA s) s.heap H locs) (hl : lv_has ls 23 [(19, .int (nI 0)), (18, .int (nI 0)), (17, .int (nI 0)), (13, .int (nI (S))), (5, .int (xv)), (4, .int (nI (t))), (3, .int (nI (n))), (2, .ref (w)), (1, .ref (ad 0 0)), (0, .ref (b))]) (K : ∀ (locs : List Loc) (ls : Array Slot), va_S (lwA s) s.heap H locs → lv_has ls 23 [(18, .int (selF S (g 1) n)), (17, .int (selF S (lackF g) n)), (13, .int (nI (S))), (5, .int (xv)), (4, .int (nI (t))), (3, .int (nI (n))), (2, .ref (w)), (1, .ref (ad 0 0)), (0, .ref (b))] → W p l e room_1 s m #[Value.ref b] below meth c H locs (cs + 24) (ss + 144) (lw_Z below #[Value.ref b] s) (F0 m 438 ls [])) : W p l e room_1 s m #[Value.ref b] below meth c H locs cs ss (lw_Z below #[Value.ref b] s) (F0 m 389 ls []) := by
  obtain ⟨hx, hb, hr, hml, hown, hE, hXs, hbl, hlocks, hLb, hl9, hFF, hwF⟩ := C
  have hts := hE.1.all #[Value.ref b]
  have hK := hE.2.1
  have hbA : ¬ lwA s b := Nat.not_le.mpr hbl
  have h256 := pow256 (show n ≤ 8 by omega)
  have hpp := Nat.two_pow_pos n
  have hLm : L < 2 ^ 31 := by omega
  obtain ⟨hX, hA, hN, hN1, hIv, hW, hBx, hWa, h80⟩ := id hI
  have LOOP389 : ∀ (n389 : Nat) (i : Nat) (locs : List Loc) (ls : Array Slot), (i ≤ n) → va_S (lwA s) s.heap H locs → (n - i) < n389 → lv_has ls 23 [(19, .int (nI (i))), (18, .int (selF S (g 1) i)), (17, .int (selF S (lackF g) i)), (13, .int (nI (S))), (5, .int (xv)), (4, .int (nI (t))), (3, .int (nI (n))), (2, .ref (w)), (1, .ref (ad 0 0)), (0, .ref (b))] → W p l e room_1 s m #[Value.ref b] below meth c H locs (cs + 4 * i) (ss + 24 * i) (lw_Z below #[Value.ref b] s) (F0 m 389 ls []) := by
    intro n389
    induction n389 with
    | zero => intro i locs ls hi hS hmeas hl; exact absurd hmeas (Nat.not_lt_zero _)
    | succ n389 ih389 =>
      intro i locs ls hi hS hmeas hl
      refine lv_iload hx hb dL_law_389 (lv_at hl 0 rfl) ?_
      refine lv_iload_n hx hb dL_law_391 rfl (lv_at hl 6 rfl) ?_
      refine lv_icmp_ge (tgt := 438) hx hb dL_law_392 (by decide) (fun c392 => ?_) (fun c392 => ?_)
      · have c392 : n ≤ i := (nI_leI (a := n) (b := i) (by omega) (by omega)).mp c392
        have hi9 : i = n := by omega
        rw [hi9] at hl
        refine W.widen (k := cs + 24) (n := ss + 144) (by omega) (by omega) ?_
        exact K _ _ hS (lv_sub hl [1, 2, 3, 4, 5, 6, 7, 8, 9] rfl)
      · have c392 : ¬ (n ≤ i) := fun z => c392 ((nI_leI (a := n) (b := i) (by omega) (by omega)).mpr z)
        refine lv_iload hx hb dL_law_395 (lv_at hl 3 rfl) ?_
        refine lv_iload hx hb dL_law_397 (lv_at hl 0 rfl) ?_
        refine lv_ishr hx hb dL_law_399 ?_
        refine lv_iconst (v := nI 1) hx hb dL_law_400 (by decide) ?_
        refine lv_iand hx hb dL_law_401 ?_
        refine xtop (show (((nI (S)) >>> (nI (i) &&& 31)) &&& (nI 1)) = if S.testBit i = true then nI 1 else nI 0 from p_bit S (by omega) i (by omega)) ?_
        refine lv_if_ne (tgt := 408) hx hb dL_law_402 (by decide) (fun c402 => ?_) (fun c402 => ?_)
        · have hbit := bit_t c402
          refine lv_iload hx hb dL_law_408 (lv_at hl 2 rfl) ?_
          refine lv_aload_n hx hb dL_law_410 rfl (lv_at hl 8 rfl) ?_
          refine lv_iload hx hb dL_law_411 (lv_at hl 0 rfl) ?_
          refine lv_iconst (v := nI 2) hx hb dL_law_413 (by decide) ?_
          refine xcXi (vx_runV (As := [.int (nI (i)), .int (nI 2)]) (rest := [.int (selF S (lackF g) i)]) ⟨hx, hb, hml, hown, hts⟩ (c_X4_machine l D cA e0 Fc H ad g tt N hX (nI (i)) (nI 2) hA hl9) ⟨(callB_of 2 hts gi_X4_machine rfl rfl rfl (hts _ q_ini_X4) (hts _ q_ml_L_64) hd_X4_machine ⟨Nat.le_of_ble_eq_true rfl, Nat.le_of_ble_eq_true rfl⟩), hts _ q_im_X4_machine, hts _ q_sel_X4_X4_machine⟩ (xpVn hE hS hFF (hX.main) rfl) rfl rfl hl.1 rfl (lv_room (Nat.le_of_ble_eq_true rfl)) dL_law_414 ⟨(show (cs + 4 * i) + 2 ≤ 626463 by omega), (show (ss + 24 * i) + 12 ≤ 7222236 by omega)⟩) hS hFF (fun E9 ce9 q9 H9 locs9 hPX9 hz9 hk9 hS9 hc9 hv9 hcl9 => ?_) (fun r_1 H1 locs hP9 hz9 hk9 hS => ?_)
          · exact (hPX9.2 ⟨⟨i, by omega, rfl⟩, 2, by omega, rfl⟩).elim
          obtain ⟨hh9, -, hr9⟩ := hP9
          rw [hh9] at hS ⊢
          have hr9 : r_1 = lackF g i := hr9.trans (mF g (i := i) (w := 2) (by omega) (by omega))
          rw [hr9]
          refine lv_iadd hx hb dL_law_417 ?_
          refine xtop (show ((selF S (lackF g) i) + (lackF g i)) = selF S (lackF g) (i + 1) from (selF_yes hbit).symm) ?_
          refine lv_istore (lv' := [(17, .int (selF S (lackF g) (i + 1))), (19, .int (nI (i))), (18, .int (selF S (g 1) i)), (13, .int (nI (S))), (5, .int (xv)), (4, .int (nI (t))), (3, .int (nI (n))), (2, .ref (w)), (1, .ref (ad 0 0)), (0, .ref (b))]) hx hb dL_law_418 hl (by decide) rfl (fun ls hl => ?_)
          refine lv_iload hx hb dL_law_420 (lv_at hl 2 rfl) ?_
          refine lv_aload_n hx hb dL_law_422 rfl (lv_at hl 8 rfl) ?_
          refine lv_iload hx hb dL_law_423 (lv_at hl 1 rfl) ?_
          refine lv_iconst (v := nI 0) hx hb dL_law_425 (by decide) ?_
          refine xcXi (vx_runV (As := [.int (nI (i)), .int (nI 0)]) (rest := [.int (selF S (g 1) i)]) ⟨hx, hb, hml, hown, hts⟩ (c_X4_machine l D cA e0 Fc H ad g tt N hX (nI (i)) (nI 0) hA hl9) ⟨(callB_of 2 hts gi_X4_machine rfl rfl rfl (hts _ q_ini_X4) (hts _ q_ml_L_64) hd_X4_machine ⟨Nat.le_of_ble_eq_true rfl, Nat.le_of_ble_eq_true rfl⟩), hts _ q_im_X4_machine, hts _ q_sel_X4_X4_machine⟩ (xpVn hE hS hFF (hX.main) rfl) rfl rfl hl.1 rfl (lv_room (Nat.le_of_ble_eq_true rfl)) dL_law_426 ⟨(show ((cs + 4 * i) + 2) + 2 ≤ 626463 by omega), (show ((ss + 24 * i) + 12) + 12 ≤ 7222236 by omega)⟩) hS hFF (fun E9 ce9 q9 H9 locs9 hPX9 hz9 hk9 hS9 hc9 hv9 hcl9 => ?_) (fun r_2 H2 locs hP9 hz9 hk9 hS => ?_)
          · exact (hPX9.2 ⟨⟨i, by omega, rfl⟩, 0, by omega, rfl⟩).elim
          obtain ⟨hh9, -, hr9⟩ := hP9
          rw [hh9] at hS ⊢
          have hr9 : r_2 = g 1 i := hr9.trans (mF g (i := i) (w := 0) (by omega) (by omega))
          rw [hr9]
          refine lv_iadd hx hb dL_law_429 ?_
          refine xtop (show ((selF S (g 1) i) + (g 1 i)) = selF S (g 1) (i + 1) from (selF_yes hbit).symm) ?_
          refine lv_istore (lv' := [(18, .int (selF S (g 1) (i + 1))), (17, .int (selF S (lackF g) (i + 1))), (19, .int (nI (i))), (13, .int (nI (S))), (5, .int (xv)), (4, .int (nI (t))), (3, .int (nI (n))), (2, .ref (w)), (1, .ref (ad 0 0)), (0, .ref (b))]) hx hb dL_law_430 hl (by decide) rfl (fun ls hl => ?_)
          refine lv_iinc (v := nI (i + 1)) (lv' := [(19, .int (nI (i + 1))), (18, .int (selF S (g 1) (i + 1))), (17, .int (selF S (lackF g) (i + 1))), (13, .int (nI (S))), (5, .int (xv)), (4, .int (nI (t))), (3, .int (nI (n))), (2, .ref (w)), (1, .ref (ad 0 0)), (0, .ref (b))]) hx hb dL_law_432 hl (k := 2) rfl (nI_add i 1) (by decide) rfl (fun ls hl => ?_)
          refine lv_goto (tgt := 389) hx hb dL_law_435 (by decide) ?_
          refine W.widen (k := cs + 4 * (i + 1)) (n := ss + 24 * (i + 1)) (by omega) (by omega) ?_
          exact ih389 (i + 1) locs _ (by omega) hS (by omega) (lv_sub hl [0, 1, 2, 3, 4, 5, 6, 7, 8, 9] rfl)
        · have hbit := bit_f c402
          rw [show selF S (g 1) i = selF S (g 1) (i + 1) from (selF_no hbit).symm, show selF S (lackF g) i = selF S (lackF g) (i + 1) from (selF_no hbit).symm] at hl
          refine lv_goto (tgt := 432) hx hb dL_law_405 (by decide) ?_
          refine lv_iinc (v := nI (i + 1)) (lv' := [(19, .int (nI (i + 1))), (18, .int (selF S (g 1) (i + 1))), (17, .int (selF S (lackF g) (i + 1))), (13, .int (nI (S))), (5, .int (xv)), (4, .int (nI (t))), (3, .int (nI (n))), (2, .ref (w)), (1, .ref (ad 0 0)), (0, .ref (b))]) hx hb dL_law_432 hl (k := 0) rfl (nI_add i 1) (by decide) rfl (fun ls hl => ?_)
          refine lv_goto (tgt := 389) hx hb dL_law_435 (by decide) ?_
          refine W.widen (k := cs + 4 * (i + 1)) (n := ss + 24 * (i + 1)) (by omega) (by omega) ?_
          exact ih389 (i + 1) locs _ (by omega) hS (by omega) (lv_sub hl [0, 1, 2, 3, 4, 5, 6, 7, 8, 9] rfl)
  refine W.widen (k := cs + 4 * 0) (n := ss + 24 * 0) (by omega) (by omega) ?_
  exact LOOP389 _ 0 locs _ (Nat.zero_le _) hS (Nat.lt_succ_self _) (lv_sub hl [0, 1, 2, 3, 4, 5, 6, 7, 8, 9] rfl)
set_option maxHeartbeats 4000000 in
set_option maxRecDepth 100000 in
/-- nothing lacks, the boxes are empty, the gains 0 -/
theorem law_p5 {p : Program} {l : Launch} {e : Env} {s : State} {m : MethodId} {below : List Frame} {meth : Method} {c : Code} {b L : Nat} {xs : Nat → Int32} {D : va_G} {cA : Nat → ClassId} {e0 w : Nat} {Fc : Nat → Prop} (C : lwC p l s m meth c b L xs D cA e0 w Fc) {ad : Nat → Nat → Nat} {g : Nat → Nat → Int32} {tt : Nat → Int64} {N : Nat → Nat} {H : Heap} {n : Nat} (hI : pI D cA e0 Fc w ad g tt N H n) (hn : n ≤ 6) {S t : Nat} {xv : Int32} (hSt : S < 2 ^ n) (hz : ∀ m, m < 8 → S.testBit m = true → g 1 m = nI 0 ∧ lackF g m = nI 0 ∧ gainF g m = nI 0) {cs ss : Nat} (hcs : cs ≤ 600000) (hss : ss ≤ 7000000) {locs : List Loc} {ls : Array Slot} (hS : va_S (lwA s) s.heap H locs) (hl : lv_has ls 23 [(22, .int (nI 0)), (13, .int (nI (S))), (5, .int (xv)), (4, .int (nI (t))), (3, .int (nI (n))), (2, .ref (w)), (1, .ref (ad 0 0)), (0, .ref (b))]) (K : ∀ (locs : List Loc) (ls : Array Slot), va_S (lwA s) s.heap H locs → lv_has ls 23 [(5, .int (xv)), (4, .int (nI (t))), (3, .int (nI (n))), (2, .ref (w)), (1, .ref (ad 0 0)), (0, .ref (b))] → W p l e room_1 s m #[Value.ref b] below meth c H locs (cs + 36) (ss + 216) (lw_Z below #[Value.ref b] s) (F0 m 554 ls [])) : W p l e room_1 s m #[Value.ref b] below meth c H locs cs ss (lw_Z below #[Value.ref b] s) (F0 m 499 ls []) := by
  obtain ⟨hx, hb, hr, hml, hown, hE, hXs, hbl, hlocks, hLb, hl9, hFF, hwF⟩ := C
  have hts := hE.1.all #[Value.ref b]
  have hK := hE.2.1
  have hbA : ¬ lwA s b := Nat.not_le.mpr hbl
  have h256 := pow256 (show n ≤ 8 by omega)
  have hpp := Nat.two_pow_pos n
  have hLm : L < 2 ^ 31 := by omega
  obtain ⟨hX, hA, hN, hN1, hIv, hW, hBx, hWa, h80⟩ := id hI
  have LOOP499 : ∀ (n499 : Nat) (i : Nat) (locs : List Loc) (ls : Array Slot), (i ≤ n) → va_S (lwA s) s.heap H locs → (n - i) < n499 → lv_has ls 23 [(22, .int (nI (i))), (13, .int (nI (S))), (5, .int (xv)), (4, .int (nI (t))), (3, .int (nI (n))), (2, .ref (w)), (1, .ref (ad 0 0)), (0, .ref (b))] → W p l e room_1 s m #[Value.ref b] below meth c H locs (cs + 6 * i) (ss + 36 * i) (lw_Z below #[Value.ref b] s) (F0 m 499 ls []) := by
    intro n499
    induction n499 with
    | zero => intro i locs ls hi hS hmeas hl; exact absurd hmeas (Nat.not_lt_zero _)
    | succ n499 ih499 =>
      intro i locs ls hi hS hmeas hl
      refine lv_iload hx hb dL_law_499 (lv_at hl 0 rfl) ?_
      refine lv_iload_n hx hb dL_law_501 rfl (lv_at hl 4 rfl) ?_
      refine lv_icmp_ge (tgt := 554) hx hb dL_law_502 (by decide) (fun c502 => ?_) (fun c502 => ?_)
      · have c502 : n ≤ i := (nI_leI (a := n) (b := i) (by omega) (by omega)).mp c502
        have hi9 : i = n := by omega
        rw [hi9] at hl
        refine W.widen (k := cs + 36) (n := ss + 216) (by omega) (by omega) ?_
        exact K _ _ hS (lv_sub hl [2, 3, 4, 5, 6, 7] rfl)
      · have c502 : ¬ (n ≤ i) := fun z => c502 ((nI_leI (a := n) (b := i) (by omega) (by omega)).mpr z)
        refine lv_iload hx hb dL_law_505 (lv_at hl 1 rfl) ?_
        refine lv_iload hx hb dL_law_507 (lv_at hl 0 rfl) ?_
        refine lv_ishr hx hb dL_law_509 ?_
        refine lv_iconst (v := nI 1) hx hb dL_law_510 (by decide) ?_
        refine lv_iand hx hb dL_law_511 ?_
        refine xtop (show (((nI (S)) >>> (nI (i) &&& 31)) &&& (nI 1)) = if S.testBit i = true then nI 1 else nI 0 from p_bit S (by omega) i (by omega)) ?_
        refine lv_iconst (v := nI 1) hx hb dL_law_512 (by decide) ?_
        refine lv_icmp_ne (tgt := 548) hx hb dL_law_513 (by decide) (fun c513 => ?_) (fun c513 => ?_)
        · have hbit := bit_f1 c513
          refine lv_iinc (v := nI (i + 1)) (lv' := [(22, .int (nI (i + 1))), (13, .int (nI (S))), (5, .int (xv)), (4, .int (nI (t))), (3, .int (nI (n))), (2, .ref (w)), (1, .ref (ad 0 0)), (0, .ref (b))]) hx hb dL_law_548 hl (k := 0) rfl (nI_add i 1) (by decide) rfl (fun ls hl => ?_)
          refine lv_goto (tgt := 499) hx hb dL_law_551 (by decide) ?_
          refine W.widen (k := cs + 6 * (i + 1)) (n := ss + 36 * (i + 1)) (by omega) (by omega) ?_
          exact ih499 (i + 1) locs _ (by omega) hS (by omega) (lv_sub hl [0, 1, 2, 3, 4, 5, 6, 7] rfl)
        · have hbit := bit_t1 c513
          refine lv_aload_n hx hb dL_law_516 rfl (lv_at hl 6 rfl) ?_
          refine lv_iload hx hb dL_law_517 (lv_at hl 0 rfl) ?_
          refine lv_iconst (v := nI 2) hx hb dL_law_519 (by decide) ?_
          refine xcXi (vx_runV (As := [.int (nI (i)), .int (nI 2)]) (rest := []) ⟨hx, hb, hml, hown, hts⟩ (c_X4_machine l D cA e0 Fc H ad g tt N hX (nI (i)) (nI 2) hA hl9) ⟨(callB_of 2 hts gi_X4_machine rfl rfl rfl (hts _ q_ini_X4) (hts _ q_ml_L_64) hd_X4_machine ⟨Nat.le_of_ble_eq_true rfl, Nat.le_of_ble_eq_true rfl⟩), hts _ q_im_X4_machine, hts _ q_sel_X4_X4_machine⟩ (xpVn hE hS hFF (hX.main) rfl) rfl rfl hl.1 rfl (lv_room (Nat.le_of_ble_eq_true rfl)) dL_law_520 ⟨(show (cs + 6 * i) + 2 ≤ 626463 by omega), (show (ss + 36 * i) + 12 ≤ 7222236 by omega)⟩) hS hFF (fun E9 ce9 q9 H9 locs9 hPX9 hz9 hk9 hS9 hc9 hv9 hcl9 => ?_) (fun r_1 H1 locs hP9 hz9 hk9 hS => ?_)
          · exact (hPX9.2 ⟨⟨i, by omega, rfl⟩, 2, by omega, rfl⟩).elim
          obtain ⟨hh9, -, hr9⟩ := hP9
          rw [hh9] at hS ⊢
          have hr9 : r_1 = lackF g i := hr9.trans (mF g (i := i) (w := 2) (by omega) (by omega))
          rw [hr9]
          refine xtop (show (lackF g i) = nI 0 from (hz i (by omega) hbit).2.1) ?_
          refine lv_if_ne (tgt := 546) hx hb dL_law_523 (by decide) (fun hno => absurd hno ((fun z => z rfl))) (fun _ => ?_)
          refine lv_aload_n hx hb dL_law_526 rfl (lv_at hl 6 rfl) ?_
          refine lv_iload hx hb dL_law_527 (lv_at hl 0 rfl) ?_
          refine lv_iconst (v := nI 0) hx hb dL_law_529 (by decide) ?_
          refine xcXi (vx_runV (As := [.int (nI (i)), .int (nI 0)]) (rest := []) ⟨hx, hb, hml, hown, hts⟩ (c_X4_machine l D cA e0 Fc H ad g tt N hX (nI (i)) (nI 0) hA hl9) ⟨(callB_of 2 hts gi_X4_machine rfl rfl rfl (hts _ q_ini_X4) (hts _ q_ml_L_64) hd_X4_machine ⟨Nat.le_of_ble_eq_true rfl, Nat.le_of_ble_eq_true rfl⟩), hts _ q_im_X4_machine, hts _ q_sel_X4_X4_machine⟩ (xpVn hE hS hFF (hX.main) rfl) rfl rfl hl.1 rfl (lv_room (Nat.le_of_ble_eq_true rfl)) dL_law_530 ⟨(show ((cs + 6 * i) + 2) + 2 ≤ 626463 by omega), (show ((ss + 36 * i) + 12) + 12 ≤ 7222236 by omega)⟩) hS hFF (fun E9 ce9 q9 H9 locs9 hPX9 hz9 hk9 hS9 hc9 hv9 hcl9 => ?_) (fun r_2 H2 locs hP9 hz9 hk9 hS => ?_)
          · exact (hPX9.2 ⟨⟨i, by omega, rfl⟩, 0, by omega, rfl⟩).elim
          obtain ⟨hh9, -, hr9⟩ := hP9
          rw [hh9] at hS ⊢
          have hr9 : r_2 = g 1 i := hr9.trans (mF g (i := i) (w := 0) (by omega) (by omega))
          rw [hr9]
          refine xtop (show (g 1 i) = nI 0 from (hz i (by omega) hbit).1) ?_
          refine lv_if_ne (tgt := 546) hx hb dL_law_533 (by decide) (fun hno => absurd hno ((fun z => z rfl))) (fun _ => ?_)
          refine lv_aload_n hx hb dL_law_536 rfl (lv_at hl 6 rfl) ?_
          refine lv_iload hx hb dL_law_537 (lv_at hl 0 rfl) ?_
          refine lv_iconst (v := nI 3) hx hb dL_law_539 (by decide) ?_
          refine xcXi (vx_runV (As := [.int (nI (i)), .int (nI 3)]) (rest := []) ⟨hx, hb, hml, hown, hts⟩ (c_X4_machine l D cA e0 Fc H ad g tt N hX (nI (i)) (nI 3) hA hl9) ⟨(callB_of 2 hts gi_X4_machine rfl rfl rfl (hts _ q_ini_X4) (hts _ q_ml_L_64) hd_X4_machine ⟨Nat.le_of_ble_eq_true rfl, Nat.le_of_ble_eq_true rfl⟩), hts _ q_im_X4_machine, hts _ q_sel_X4_X4_machine⟩ (xpVn hE hS hFF (hX.main) rfl) rfl rfl hl.1 rfl (lv_room (Nat.le_of_ble_eq_true rfl)) dL_law_540 ⟨(show (((cs + 6 * i) + 2) + 2) + 2 ≤ 626463 by omega), (show (((ss + 36 * i) + 12) + 12) + 12 ≤ 7222236 by omega)⟩) hS hFF (fun E9 ce9 q9 H9 locs9 hPX9 hz9 hk9 hS9 hc9 hv9 hcl9 => ?_) (fun r_3 H3 locs hP9 hz9 hk9 hS => ?_)
          · exact (hPX9.2 ⟨⟨i, by omega, rfl⟩, 3, by omega, rfl⟩).elim
          obtain ⟨hh9, -, hr9⟩ := hP9
          rw [hh9] at hS ⊢
          have hr9 : r_3 = gainF g i := hr9.trans (mF g (i := i) (w := 3) (by omega) (by omega))
          rw [hr9]
          refine xtop (show (gainF g i) = nI 0 from (hz i (by omega) hbit).2.2) ?_
          refine lv_if_eq (tgt := 548) hx hb dL_law_543 (by decide) (fun _ => ?_) (fun hno => absurd (rfl) hno)
          refine lv_iinc (v := nI (i + 1)) (lv' := [(22, .int (nI (i + 1))), (13, .int (nI (S))), (5, .int (xv)), (4, .int (nI (t))), (3, .int (nI (n))), (2, .ref (w)), (1, .ref (ad 0 0)), (0, .ref (b))]) hx hb dL_law_548 hl (k := 0) rfl (nI_add i 1) (by decide) rfl (fun ls hl => ?_)
          refine lv_goto (tgt := 499) hx hb dL_law_551 (by decide) ?_
          refine W.widen (k := cs + 6 * (i + 1)) (n := ss + 36 * (i + 1)) (by omega) (by omega) ?_
          exact ih499 (i + 1) locs _ (by omega) hS (by omega) (lv_sub hl [0, 1, 2, 3, 4, 5, 6, 7] rfl)
  refine W.widen (k := cs + 6 * 0) (n := ss + 36 * 0) (by omega) (by omega) ?_
  exact LOOP499 _ 0 locs _ (Nat.zero_le _) hS (Nat.lt_succ_self _) (lv_sub hl [0, 1, 2, 3, 4, 5, 6, 7] rfl)
