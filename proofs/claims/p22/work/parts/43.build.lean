/-! build: the machines that cells choose (by p43.py) -/
theorem bS_out {D : va_G} {cA : Nat → ClassId} {e0 x0 w o : Nat} {A : Nat → Prop} {ad : Nat → Nat → Nat} {g : Nat → Nat → Int32} {N : Nat → Nat} {H H1 : Heap} {e : va_E} (h : bS D cA e0 A x0 w ad g N H) (ho : ¬ A o) (hw : o ≠ w) (hU : xUp D o e H H1) : bS D cA e0 A x0 w ad g N H1 := by
  obtain ⟨b1, b2, b3, b4, b5, b6, b7, b8, b9, b10⟩ := h
  exact ⟨b1.out b2 ho hU, b2, b3, b4, b5, b6, b7, b8, b9.kept (hU.2.2 _ hw.symm), b10⟩
set_option maxHeartbeats 4000000 in
set_option maxRecDepth 100000 in
/-- the machines that cells choose -/
theorem c_L_build (l : Launch) (D : va_G) (cA : Nat → ClassId) (e0 : Nat) (A : Nat → Prop) (H0 : Heap) (ad : Nat → Nat → Nat) (hX : xW D cA ad g00 (fun _ => 0) n00 H0) (Fc : Nat → Prop) (hF : ∀ q, Fc q → A q) (hA : xA Fc e0 ad n00) (hAn : ∀ q, H0.size ≤ q → Fc q) (w mm sl : Nat) (fw fm fs : Nat → Int32) (hWa : va_at D vwCl (w, .inl (cA 0, 81, .inl fw)) H0) (hMa : va_at D vwCl (mm, .inl (cA 0, 24, .inl fm)) H0) (hSa : va_at D vwCl (sl, .inl (cA 0, 288, .inl fs)) H0) (hwA : A w) (hmA : A mm) (hsA : A sl) (hwF : ¬ Fc w) (hmF : ¬ Fc mm) (hsF : ¬ Fc sl) (hwm : w ≠ mm) (hws : w ≠ sl) (hms : mm ≠ sl) (b L : Nat) (xs : Nat → Int32) (hbA : ¬ A b) (hLm : L < 2 ^ 31) (hl9 : l.stackTraces = false) : Met l yL_build w_L_build ({ frames := 9, cells := 384, slots := 2784, locals := 196 } : Room) (xPs D cA e0 A H0 b L xs [.ref (ad 0 0), .ref (b), .int (nI (0)), .int (nI (6)), .ref (w), .ref (mm), .ref (sl)]) (xQi (fun r h => r = nI (1 + belN (cellF xs L 0) 6) ∧ ∃ ad2 g N, N 0 = 1 + belN (cellF xs L 0) 6 ∧ bS D cA e0 Fc (ad 0 0) w ad2 g N h) A) 384 2784 (A) := by
  refine Met.ofW (cc := cL_build) (maxL := 13) (ret := (some .int)) (by decide) rfl ?_
  intro p e s m args below meth c s₁ B hml hv
  obtain ⟨rfl, hH, hE, hXs⟩ := hv
  subst hH
  have hx := B.exec
  have hb := B.bytes
  have hr := B.returns
  have hts := hE.1.all ([.ref (ad 0 0), .ref (b), .int (nI (0)), .int (nI (6)), .ref (w), .ref (mm), .ref (sl)] : List Value).toArray
  have hown : s.vm.findClass RL = some m.cls := findClass_of_methodNamed B.named
  have hlocks := B.notSynchronized
  have hK := hE.2.1
  have hbl := va_X.lt hXs
  have hS : va_S A s.heap s.heap [] := va_S.rf
  have hl := lv_entry ([.ref (ad 0 0), .ref (b), .int (nI (0)), .int (nI (6)), .ref (w), .ref (mm), .ref (sl)]) (n := 13) (Nat.le_of_ble_eq_true rfl)
  rw [lg_entry_eq]
  generalize (lg_sl ([.ref (ad 0 0), .ref (b), .int (nI (0)), .int (nI (6)), .ref (w), .ref (mm), .ref (sl)]) ++ List.replicate (13 - (lg_sl ([.ref (ad 0 0), .ref (b), .int (nI (0)), .int (nI (6)), .ref (w), .ref (mm), .ref (sl)])).length) Slot.unset).toArray = ls at hl ⊢
  have hl : lv_has ls 13 [(0, .ref (ad 0 0)), (1, .ref (b)), (2, .int (nI (0))), (3, .int (nI (6))), (4, .ref (w)), (5, .ref (mm)), (6, .ref (sl))] := hl
  refine lv_iconst (v := nI 1) hx hb dL_build_0 (by decide) ?_
  refine lv_aload_n hx hb dL_build_1 rfl (lv_at hl 1 rfl) ?_
  refine lv_iload_n hx hb dL_build_2 rfl (lv_at hl 2 rfl) ?_
  refine xcRi (va_runS (As := [.ref (b), .int (nI (0))]) (rest := [.int (nI 1)]) ⟨hx, hb, hml, hown, hts⟩ (c_L_cell l D cA e0 A s.heap b L xs (0) hbA hLm (by omega)) ⟨(callB_of 2 hts gi_L_cell rfl rfl rfl (hts _ q_ini_L) (hts _ q_ml_L_9) hd_L_cell ⟨Nat.le_of_ble_eq_true rfl, Nat.le_of_ble_eq_true rfl⟩), hts _ q_st_L_cell⟩ (xpSs hE hXs hbl hbA hS (fun q h => h)) rfl rfl hl.1 rfl (lv_room (Nat.le_of_ble_eq_true rfl)) dL_build_3 ⟨(show 0 + 0 ≤ 384 by omega), (show 0 + 0 ≤ 2784 by omega)⟩) ?_
  refine lv_iload_n hx hb dL_build_6 rfl (lv_at hl 3 rfl) ?_
  have hlt7 : belN (cellF xs L (0)) (6) < 6 := bel_lt _ (by omega)
  refine xcRi (va_runS (As := [.int (cellF xs L (0)), .int (nI (6))]) (rest := [.int (nI 1)]) ⟨hx, hb, hml, hown, hts⟩ (c_L_below l D cA e0 A s.heap (cellF xs L (0)) (6) (by omega) (by omega)) ⟨(callB_of 2 hts gi_L_below rfl rfl rfl (hts _ q_ini_L) (hts _ q_ml_L_15) hd_L_below ⟨Nat.le_of_ble_eq_true rfl, Nat.le_of_ble_eq_true rfl⟩), hts _ q_st_L_below⟩ (xpS hE hS) rfl rfl hl.1 rfl (lv_room (Nat.le_of_ble_eq_true rfl)) dL_build_7 ⟨(show 0 + 0 ≤ 384 by omega), (show 0 + 0 ≤ 2784 by omega)⟩) ?_
  refine lv_iadd hx hb dL_build_10 ?_
  refine xtop (show ((nI 1) + (nI (belN (cellF xs L (0)) (6)))) = nI (1 + (belN (cellF xs L (0)) (6))) from nI_add 1 (belN (cellF xs L (0)) (6))) ?_
  obtain ⟨n, hn⟩ : ∃ z, z = 1 + belN (cellF xs L 0) 6 := ⟨_, rfl⟩
  refine xtop (show (nI (1 + (belN (cellF xs L (0)) (6)))) = nI (n) from by rw [hn]) ?_
  have hn1 : 1 ≤ n := by omega
  have hn6 : n ≤ 6 := by omega
  refine lv_istore (lv' := [(7, .int (nI (n))), (0, .ref (ad 0 0)), (1, .ref (b)), (2, .int (nI (0))), (3, .int (nI (6))), (4, .ref (w)), (5, .ref (mm)), (6, .ref (sl))]) hx hb dL_build_11 hl (by decide) rfl (fun ls hl => ?_)
  refine lv_iconst (v := nI 0) hx hb dL_build_13 (by decide) ?_
  refine lv_istore (lv' := [(8, .int (nI 0)), (7, .int (nI (n))), (0, .ref (ad 0 0)), (1, .ref (b)), (2, .int (nI (0))), (3, .int (nI (6))), (4, .ref (w)), (5, .ref (mm)), (6, .ref (sl))]) hx hb dL_build_14 hl (by decide) rfl (fun ls hl => ?_)
  have LOOP16 : ∀ (n16 : Nat) (k : Nat) (f : Nat → Int32) (H : Heap) (locs : List Loc) (ls : Array Slot), (k ≤ 81) → (xW D cA ad g00 (fun _ => 0) n00 H) → (va_at D vwCl (w, .inl (cA 0, 81, .inl f)) H) → (va_at D vwCl (mm, .inl (cA 0, 24, .inl (fm))) H) → (va_at D vwCl (sl, .inl (cA 0, 288, .inl (fs))) H) → (∀ p, p < k → f p = way0 p) → va_S A s.heap H locs → (81 - k) < n16 → lv_has ls 13 [(8, .int (nI (k))), (7, .int (nI (n))), (0, .ref (ad 0 0)), (1, .ref (b)), (2, .int (nI (0))), (4, .ref (w)), (5, .ref (mm)), (6, .ref (sl))] → W p l e (headSpec w_L_build ({ frames := 9, cells := 384, slots := 2784, locals := 196 } : Room)).room s m ([.ref (ad 0 0), .ref (b), .int (nI (0)), .int (nI (6)), .ref (w), .ref (mm), .ref (sl)] : List Value).toArray below meth c H locs 0 0 (MQ below (xQi (fun r h => r = nI (1 + belN (cellF xs L 0) 6) ∧ ∃ ad2 g N, N 0 = 1 + belN (cellF xs L 0) 6 ∧ bS D cA e0 Fc (ad 0 0) w ad2 g N h) A) ([.ref (ad 0 0), .ref (b), .int (nI (0)), .int (nI (6)), .ref (w), .ref (mm), .ref (sl)] : List Value).toArray s 384 2784 (A)) (F0 m 16 ls []) := by
    intro n16
    induction n16 with
    | zero => intro k f H locs ls hk hXl hWa hMa hSa hf hS hmeas hl; exact absurd hmeas (Nat.not_lt_zero _)
    | succ n16 ih16 =>
      intro k f H locs ls hk hXl hWa hMa hSa hf hS hmeas hl
      refine lv_iload hx hb dL_build_16 (lv_at hl 0 rfl) ?_
      refine lv_bipush (v := nI 81) hx hb dL_build_18 (by decide) ?_
      refine lv_icmp_ge (tgt := 53) hx hb dL_build_20 (by decide) (fun c20 => ?_) (fun c20 => ?_)
      · have c20 : 81 ≤ k := (nI_leI (a := 81) (b := k) (by omega) (by omega)).mp c20
        have hWa := at_i (f' := g00 3) (fun j hj => hf j (by omega)) hWa
        have hB := bS_00 (x0 := ad 0 0) hXl hA rfl hWa
        refine lv_iconst (v := nI 0) hx hb dL_build_53 (by decide) ?_
        refine lv_istore (lv' := [(8, .int (nI 0)), (7, .int (nI (n))), (0, .ref (ad 0 0)), (1, .ref (b)), (2, .int (nI (0))), (4, .ref (w)), (5, .ref (mm)), (6, .ref (sl))]) hx hb dL_build_54 hl (by decide) rfl (fun ls hl => ?_)
        have LOOP56 : ∀ (n56 : Nat) (i : Nat) (adA : Nat → Nat → Nat) (gA : Nat → Nat → Int32) (NA : Nat → Nat) (fmA : Nat → Int32) (fsA : Nat → Int32) (H : Heap) (locs : List Loc) (ls : Array Slot), (i ≤ n) → (NA 0 = i) → ((NA 2 = 0 ∨ NA 2 = 10)) → (bS D cA e0 Fc (ad 0 0) w adA gA NA H) → (bQ gA i (6 * i)) → (va_at D vwCl (mm, .inl (cA 0, 24, .inl (fmA))) H) → (va_at D vwCl (sl, .inl (cA 0, 288, .inl (fsA))) H) → va_S A s.heap H locs → (n - i) < n56 → lv_has ls 13 [(8, .int (nI (i))), (7, .int (nI (n))), (0, .ref (adA 0 0)), (1, .ref (b)), (2, .int (nI (0))), (4, .ref (w)), (5, .ref (mm)), (6, .ref (sl))] → W p l e (headSpec w_L_build ({ frames := 9, cells := 384, slots := 2784, locals := 196 } : Room)).room s m ([.ref (ad 0 0), .ref (b), .int (nI (0)), .int (nI (6)), .ref (w), .ref (mm), .ref (sl)] : List Value).toArray below meth c H locs (57 * i) (422 * i) (MQ below (xQi (fun r h => r = nI (1 + belN (cellF xs L 0) 6) ∧ ∃ ad2 g N, N 0 = 1 + belN (cellF xs L 0) 6 ∧ bS D cA e0 Fc (ad 0 0) w ad2 g N h) A) ([.ref (ad 0 0), .ref (b), .int (nI (0)), .int (nI (6)), .ref (w), .ref (mm), .ref (sl)] : List Value).toArray s 384 2784 (A)) (F0 m 56 ls []) := by
          intro n56
          induction n56 with
          | zero => intro i adA gA NA fmA fsA H locs ls hi hN0 hN2 hB hQ hMa hSa hS hmeas hl; exact absurd hmeas (Nat.not_lt_zero _)
          | succ n56 ih56 =>
            intro i adA gA NA fmA fsA H locs ls hi hN0 hN2 hB hQ hMa hSa hS hmeas hl
            refine lv_iload hx hb dL_build_56 (lv_at hl 0 rfl) ?_
            refine lv_iload hx hb dL_build_58 (lv_at hl 1 rfl) ?_
            refine lv_icmp_ge (tgt := 321) hx hb dL_build_60 (by decide) (fun c60 => ?_) (fun c60 => ?_)
            · have c60 : n ≤ i := (nI_leI (a := n) (b := i) (by omega) (by omega)).mp c60
              have hNn : NA 0 = n := by omega
              refine lv_iconst (v := nI 0) hx hb dL_build_321 (by decide) ?_
              refine lv_istore (lv' := [(8, .int (nI 0)), (7, .int (nI (n))), (0, .ref (adA 0 0)), (1, .ref (b)), (2, .int (nI (0))), (4, .ref (w)), (5, .ref (mm)), (6, .ref (sl))]) hx hb dL_build_322 hl (by decide) rfl (fun ls hl => ?_)
              have LOOP324 : ∀ (n324 : Nat) (u : Nat) (gC : Nat → Nat → Int32) (H : Heap) (locs : List Loc) (ls : Array Slot), (u ≤ n) → (bS D cA e0 Fc (ad 0 0) w adA gC NA H) → (bF gC n u (u + 1)) → va_S A s.heap H locs → (n - u) < n324 → lv_has ls 13 [(8, .int (nI (u))), (7, .int (nI (n))), (0, .ref (adA 0 0)), (1, .ref (b)), (2, .int (nI (0))), (4, .ref (w))] → W p l e (headSpec w_L_build ({ frames := 9, cells := 384, slots := 2784, locals := 196 } : Room)).room s m ([.ref (ad 0 0), .ref (b), .int (nI (0)), .int (nI (6)), .ref (w), .ref (mm), .ref (sl)] : List Value).toArray below meth c H locs (342 + 7 * u) (2532 + 42 * u) (MQ below (xQi (fun r h => r = nI (1 + belN (cellF xs L 0) 6) ∧ ∃ ad2 g N, N 0 = 1 + belN (cellF xs L 0) 6 ∧ bS D cA e0 Fc (ad 0 0) w ad2 g N h) A) ([.ref (ad 0 0), .ref (b), .int (nI (0)), .int (nI (6)), .ref (w), .ref (mm), .ref (sl)] : List Value).toArray s 384 2784 (A)) (F0 m 324 ls []) := by
                intro n324
                induction n324 with
                | zero => intro u gC H locs ls hu hB hF9 hS hmeas hl; exact absurd hmeas (Nat.not_lt_zero _)
                | succ n324 ih324 =>
                  intro u gC H locs ls hu hB hF9 hS hmeas hl
                  refine lv_iload hx hb dL_build_324 (lv_at hl 0 rfl) ?_
                  refine lv_iload hx hb dL_build_326 (lv_at hl 1 rfl) ?_
                  refine lv_icmp_ge (tgt := 476) hx hb dL_build_328 (by decide) (fun c328 => ?_) (fun c328 => ?_)
                  · have c328 : n ≤ u := (nI_leI (a := n) (b := u) (by omega) (by omega)).mp c328
                    refine lv_aload_n hx hb dL_build_476 rfl (lv_at hl 2 rfl) ?_
                    refine xcRi (va_runV (As := []) (rest := []) ⟨hx, hb, hml, hown, hts⟩ (c_X4_machineCount l D cA e0 Fc H adA gC (fun _ => 0) NA hB.1) ⟨(callB_of 0 hts gi_X4_machineCount rfl rfl rfl (hts _ q_ini_X4) (hts _ q_ml_L_37) hd_X4_machineCount ⟨Nat.le_of_ble_eq_true rfl, Nat.le_of_ble_eq_true rfl⟩), hts _ q_im_X4_machineCount, hts _ q_sel_X4_X4_machineCount⟩ (xpVn hE hS hF (hB.1.main) rfl) rfl rfl hl.1 rfl (lv_room (Nat.le_of_ble_eq_true rfl)) dL_build_477 ⟨(show (342 + 7 * u) + 0 ≤ 384 by omega), (show (2532 + 42 * u) + 0 ≤ 2784 by omega)⟩) ?_
                    refine xtop (show nI (NA 0) = nI (n) from by rw [hNn]) ?_
                    refine lv_iload hx hb dL_build_480 (lv_at hl 1 rfl) ?_
                    refine lv_icmp_ne (tgt := 490) hx hb dL_build_482 (by decide) (fun hno => absurd hno (fun z => z rfl)) (fun _ => ?_)
                    refine lv_iload hx hb dL_build_485 (lv_at hl 1 rfl) ?_
                    refine lv_goto (tgt := 491) hx hb dL_build_487 (by decide) ?_
                    have hpost : (fun r h => r = nI (1 + belN (cellF xs L 0) 6) ∧ ∃ ad2 g N, N 0 = 1 + belN (cellF xs L 0) 6 ∧ bS D cA e0 Fc (ad 0 0) w ad2 g N h) (nI (n)) H := by
                      exact ⟨by rw [hn], adA, gC, NA, by rw [hNn, hn], hB⟩
                    refine W.widen (k := 384) (n := 2784) (by omega) (by omega) ?_
                    exact W.iret (v := (nI (n))) hx hb hr (fun t ht _ => ⟨⟨(nI (n)), H, rfl, hpost, ht⟩, hS.F ht⟩) hS.2.2 dL_build_491
                  · have c328 : ¬ (n ≤ u) := fun z => c328 ((nI_leI (a := n) (b := u) (by omega) (by omega)).mpr z)
                    refine lv_iload hx hb dL_build_331 (lv_at hl 0 rfl) ?_
                    refine lv_iconst (v := nI 1) hx hb dL_build_333 (by decide) ?_
                    refine lv_iadd hx hb dL_build_334 ?_
                    refine xtop (show ((nI (u)) + (nI 1)) = nI (u + 1) from nI_add u 1) ?_
                    refine lv_istore (lv' := [(9, .int (nI (u + 1))), (8, .int (nI (u))), (7, .int (nI (n))), (0, .ref (adA 0 0)), (1, .ref (b)), (2, .int (nI (0))), (4, .ref (w))]) hx hb dL_build_335 hl (by decide) rfl (fun ls hl => ?_)
                    have LOOP337 : ∀ (n337 : Nat) (t : Nat) (gD : Nat → Nat → Int32) (H : Heap) (locs : List Loc) (ls : Array Slot), (t ≤ n + 1) → (u < t) → (bS D cA e0 Fc (ad 0 0) w adA gD NA H) → (bF gD n u t) → va_S A s.heap H locs → (n + 1 - t) < n337 → lv_has ls 13 [(9, .int (nI (t))), (8, .int (nI (u))), (7, .int (nI (n))), (0, .ref (adA 0 0)), (1, .ref (b)), (2, .int (nI (0))), (4, .ref (w))] → W p l e (headSpec w_L_build ({ frames := 9, cells := 384, slots := 2784, locals := 196 } : Room)).room s m ([.ref (ad 0 0), .ref (b), .int (nI (0)), .int (nI (6)), .ref (w), .ref (mm), .ref (sl)] : List Value).toArray below meth c H locs (342 + 7 * u + t) (2532 + 42 * u + 6 * t) (MQ below (xQi (fun r h => r = nI (1 + belN (cellF xs L 0) 6) ∧ ∃ ad2 g N, N 0 = 1 + belN (cellF xs L 0) 6 ∧ bS D cA e0 Fc (ad 0 0) w ad2 g N h) A) ([.ref (ad 0 0), .ref (b), .int (nI (0)), .int (nI (6)), .ref (w), .ref (mm), .ref (sl)] : List Value).toArray s 384 2784 (A)) (F0 m 337 ls []) := by
                      intro n337
                      induction n337 with
                      | zero => intro t gD H locs ls ht hut hB hF9 hS hmeas hl; exact absurd hmeas (Nat.not_lt_zero _)
                      | succ n337 ih337 =>
                        intro t gD H locs ls ht hut hB hF9 hS hmeas hl
                        refine lv_iload hx hb dL_build_337 (lv_at hl 0 rfl) ?_
                        refine lv_iload hx hb dL_build_339 (lv_at hl 2 rfl) ?_
                        refine lv_icmp_gt (tgt := 470) hx hb dL_build_341 (by decide) (fun c341 => ?_) (fun c341 => ?_)
                        · have c341 : n < t := (nI_ltI (a := n) (b := t) (by omega) (by omega)).mp c341
                          refine lv_iinc (v := nI (u + 1)) (lv' := [(8, .int (nI (u + 1))), (9, .int (nI (t))), (7, .int (nI (n))), (0, .ref (adA 0 0)), (1, .ref (b)), (2, .int (nI (0))), (4, .ref (w))]) hx hb dL_build_470 hl (k := 1) rfl (nI_add u 1) (by decide) rfl (fun ls hl => ?_)
                          refine lv_goto (tgt := 324) hx hb dL_build_473 (by decide) ?_
                          refine W.widen (k := 342 + 7 * (u + 1)) (n := 2532 + 42 * (u + 1)) (by omega) (by omega) ?_
                          exact ih324 (u + 1) gD H locs _ (by omega) hB (bF_a hF9) hS (by omega) (lv_sub hl [0, 2, 3, 4, 5, 6] rfl)
                        · have c341 : ¬ (n < t) := fun z => c341 ((nI_ltI (a := n) (b := t) (by omega) (by omega)).mpr z)
                          refine lv_aload_n hx hb dL_build_344 rfl (lv_at hl 4 rfl) ?_
                          refine lv_iload_n hx hb dL_build_345 rfl (lv_at hl 5 rfl) ?_
                          refine lv_iconst (v := nI 5) hx hb dL_build_346 (by decide) ?_
                          refine lv_iadd hx hb dL_build_347 ?_
                          refine xtop (show ((nI (0)) + (nI 5)) = nI (0 + 5) from nI_add 0 5) ?_
                          refine lv_iload hx hb dL_build_348 (lv_at hl 1 rfl) ?_
                          refine lv_iload hx hb dL_build_350 (lv_at hl 0 rfl) ?_
                          refine lv_iadd hx hb dL_build_352 ?_
                          refine xtop (show ((nI (u)) + (nI (t))) = nI (u + t) from nI_add u t) ?_
                          refine lv_iconst (v := nI 3) hx hb dL_build_353 (by decide) ?_
                          refine lv_irem hx hb dL_build_354 (by decide) ?_
                          refine xtop (show ((nI (u + t)) - (nI (u + t)) / (nI 3) * (nI 3)) = nI ((u + t) % 3) from pk_rem (by omega) (by omega) (by omega)) ?_
                          refine lv_iadd hx hb dL_build_355 ?_
                          refine xtop (show ((nI (0 + 5)) + (nI ((u + t) % 3))) = nI ((0 + 5) + ((u + t) % 3)) from nI_add (0 + 5) ((u + t) % 3)) ?_
                          refine xcRi (va_runS (As := [.ref (b), .int (nI ((0 + 5) + ((u + t) % 3)))]) (rest := []) ⟨hx, hb, hml, hown, hts⟩ (c_L_cell l D cA e0 A H b L xs ((0 + 5) + ((u + t) % 3)) hbA hLm (by omega)) ⟨(callB_of 2 hts gi_L_cell rfl rfl rfl (hts _ q_ini_L) (hts _ q_ml_L_9) hd_L_cell ⟨Nat.le_of_ble_eq_true rfl, Nat.le_of_ble_eq_true rfl⟩), hts _ q_st_L_cell⟩ (xpSs hE hXs hbl hbA hS (fun q h => h)) rfl rfl hl.1 rfl (lv_room (Nat.le_of_ble_eq_true rfl)) dL_build_356 ⟨(show (342 + 7 * u + t) + 0 ≤ 384 by omega), (show (2532 + 42 * u + 6 * t) + 0 ≤ 2784 by omega)⟩) ?_
                          refine lv_iload hx hb dL_build_359 (lv_at hl 1 rfl) ?_
                          refine lv_iconst (v := nI 3) hx hb dL_build_361 (by decide) ?_
                          refine lv_imul hx hb dL_build_362 ?_
                          refine xtop (show ((nI (u)) * (nI 3)) = nI (u * 3) from pk_mul u 3) ?_
                          refine lv_iload hx hb dL_build_363 (lv_at hl 0 rfl) ?_
                          refine lv_iadd hx hb dL_build_365 ?_
                          refine xtop (show ((nI (u * 3)) + (nI (t))) = nI ((u * 3) + t) from nI_add (u * 3) t) ?_
                          refine lv_ishr hx hb dL_build_366 ?_
                          generalize ((cellF xs L ((0 + 5) + ((u + t) % 3))) >>> (nI ((u * 3) + t) &&& 31)) = xv
                          refine lv_istore (lv' := [(10, .int (xv)), (9, .int (nI (t))), (8, .int (nI (u))), (7, .int (nI (n))), (0, .ref (adA 0 0)), (1, .ref (b)), (2, .int (nI (0))), (4, .ref (w))]) hx hb dL_build_367 hl (by decide) rfl (fun ls hl => ?_)
                          refine lv_iload hx hb dL_build_369 (lv_at hl 1 rfl) ?_
                          refine lv_iload hx hb dL_build_371 (lv_at hl 3 rfl) ?_
                          refine lv_icmp_ne (tgt := 381) hx hb dL_build_373 (by decide) (fun c373 => ?_) (fun c373 => ?_)
                          · have c373 : ¬ (t = n) := fun z => c373 ((nI_eq (a := t) (b := n) (by omega) (by omega)).mpr z)
                            refine lv_iload hx hb dL_build_381 (lv_at hl 1 rfl) ?_
                            refine lv_istore (lv' := [(11, .int (nI (t))), (10, .int (xv)), (9, .int (nI (t))), (8, .int (nI (u))), (7, .int (nI (n))), (0, .ref (adA 0 0)), (1, .ref (b)), (2, .int (nI (0))), (4, .ref (w))]) hx hb dL_build_383 hl (by decide) rfl (fun ls hl => ?_)
                            refine lv_iload hx hb dL_build_385 (lv_at hl 1 rfl) ?_
                            refine lv_iconst (v := nI 4) hx hb dL_build_387 (by decide) ?_
                            have hlt388 : belN (xv) (4) < 4 := bel_lt _ (by omega)
                            refine xcRi (va_runS (As := [.int (xv), .int (nI 4)]) (rest := []) ⟨hx, hb, hml, hown, hts⟩ (c_L_below l D cA e0 A H (xv) (4) (by omega) (by omega)) ⟨(callB_of 2 hts gi_L_below rfl rfl rfl (hts _ q_ini_L) (hts _ q_ml_L_15) hd_L_below ⟨Nat.le_of_ble_eq_true rfl, Nat.le_of_ble_eq_true rfl⟩), hts _ q_st_L_below⟩ (xpS hE hS) rfl rfl hl.1 rfl (lv_room (Nat.le_of_ble_eq_true rfl)) dL_build_388 ⟨(show (342 + 7 * u + t) + 0 ≤ 384 by omega), (show (2532 + 42 * u + 6 * t) + 0 ≤ 2784 by omega)⟩) ?_
                            refine lv_if_ne (tgt := 397) hx hb dL_build_391 (by decide) (fun c391 => ?_) (fun c391 => ?_)
                            · refine lv_iconst (v := nI 1) hx hb dL_build_397 (by decide) ?_
                              refine lv_iload hx hb dL_build_398 (lv_at hl 1 rfl) ?_
                              refine lv_iconst (v := nI 1) hx hb dL_build_400 (by decide) ?_
                              refine lv_ishr hx hb dL_build_401 ?_
                              refine lv_bipush (v := nI 25) hx hb dL_build_402 (by decide) ?_
                              have hlt404 : belN (xv >>> (nI 1 &&& 31)) (25) < 25 := bel_lt _ (by omega)
                              refine xcRi (va_runS (As := [.int (xv >>> (nI 1 &&& 31)), .int (nI 25)]) (rest := [.int (nI 1)]) ⟨hx, hb, hml, hown, hts⟩ (c_L_below l D cA e0 A H (xv >>> (nI 1 &&& 31)) (25) (by omega) (by omega)) ⟨(callB_of 2 hts gi_L_below rfl rfl rfl (hts _ q_ini_L) (hts _ q_ml_L_15) hd_L_below ⟨Nat.le_of_ble_eq_true rfl, Nat.le_of_ble_eq_true rfl⟩), hts _ q_st_L_below⟩ (xpS hE hS) rfl rfl hl.1 rfl (lv_room (Nat.le_of_ble_eq_true rfl)) dL_build_404 ⟨(show (342 + 7 * u + t) + 0 ≤ 384 by omega), (show (2532 + 42 * u + 6 * t) + 0 ≤ 2784 by omega)⟩) ?_
                              refine lv_iadd hx hb dL_build_407 ?_
                              refine xtop (show ((nI 1) + (nI (belN (xv >>> (nI 1 &&& 31)) (25)))) = nI (1 + (belN (xv >>> (nI 1 &&& 31)) (25))) from nI_add 1 (belN (xv >>> (nI 1 &&& 31)) (25))) ?_
                              refine lv_istore (lv' := [(12, .int (nI (1 + (belN (xv >>> (nI 1 &&& 31)) (25))))), (11, .int (nI (t))), (10, .int (xv)), (9, .int (nI (t))), (8, .int (nI (u))), (7, .int (nI (n))), (0, .ref (adA 0 0)), (1, .ref (b)), (2, .int (nI (0))), (4, .ref (w))]) hx hb dL_build_408 hl (by decide) rfl (fun ls hl => ?_)
                              refine lv_aload_n hx hb dL_build_410 rfl (lv_at hl 6 rfl) ?_
                              refine lv_iload hx hb dL_build_411 (lv_at hl 3 rfl) ?_
                              refine lv_iload hx hb dL_build_413 (lv_at hl 5 rfl) ?_
                              refine lv_icmp_ne (tgt := 422) hx hb dL_build_415 (by decide) (fun _ => ?_) (fun hno => absurd hno ((fun z => c373 ((nI_eq (a := t) (b := n) (by omega) (by omega)).mp z))))
                              refine lv_iload hx hb dL_build_422 (lv_at hl 3 rfl) ?_
                              refine lv_iload hx hb dL_build_424 (lv_at hl 4 rfl) ?_
                              refine lv_iload hx hb dL_build_426 (lv_at hl 0 rfl) ?_
                              have hok1 : okP (NA 0) (nI (t)) ∧ okP (NA 0) (nI (u)) := ⟨(Or.inr ⟨t, by omega, rfl⟩), Or.inr ⟨u, by omega, rfl⟩⟩
                              have hok2 : (nI (t)) ≠ nI (u) ∧ okR 1 200 (nI (1 + (belN (xv >>> (nI 1 &&& 31)) (25)))) := ⟨(fun z => absurd (nI_inj (by omega) (by omega) z) (by omega)), _, by omega, by omega, rfl⟩
                              refine xcXi (vx_runV (As := [.int (nI (t)), .int (nI (u)), .int (nI (1 + (belN (xv >>> (nI 1 &&& 31)) (25))))]) (rest := []) ⟨hx, hb, hml, hown, hts⟩ (c_X4_setMinutes l D cA e0 Fc H adA gD (fun _ => 0) NA hB.1 (nI (t)) (nI (u)) (nI (1 + (belN (xv >>> (nI 1 &&& 31)) (25)))) hB.2.1 hl9) ⟨(callB_of 3 hts gi_X4_setMinutes rfl rfl rfl (hts _ q_ini_X4) (hts _ q_ml_L_33) hd_X4_setMinutes ⟨Nat.le_of_ble_eq_true rfl, Nat.le_of_ble_eq_true rfl⟩), hts _ q_im_X4_setMinutes, hts _ q_sel_X4_X4_setMinutes⟩ (xpVn hE hS hF hB.1.main rfl) rfl rfl hl.1 rfl (lv_room (Nat.le_of_ble_eq_true rfl)) dL_build_428 ⟨(show (342 + 7 * u + t) + 1 ≤ 384 by omega), (show (2532 + 42 * u + 6 * t) + 6 ≤ 2784 by omega)⟩) hS hF (fun E9 ce9 q9 H9 locs9 hPX9 hz9 hk9 hS9 hc9 hv9 hcl9 => ?_) (fun r_1 H1 locs hP9 hz9 hk9 hS => ?_)
                              · exact (hPX9.elim (fun z => z.2 hok1) (fun z => z.2.2 hok2)).elim
                              obtain ⟨-, hr9, g2, hX2, hg2, hw2⟩ := hP9
                              rw [plN_i (b := t) (by omega), plN_i (b := u) (by omega)] at hr9 hg2
                              rw [hr9, show wy gD t u = nI 20 from hF9 u t (by omega) (by omega) (Or.inr ⟨rfl, by omega, by omega⟩)]
                              have hWa := hB.2.2.2.2.2.2.2.2.1.kept (hk9 _ hB.2.2.2.2.2.2.2.2.1.lt hwF)
                              have hA9 := hB.2.1
                              refine lv_bipush (v := nI 20) hx hb dL_build_431 (by decide) ?_
                              refine lv_icmp_eq (tgt := 438) hx hb dL_build_433 (by decide) (fun _ => ?_) (fun hno => absurd (rfl) hno)
                              refine lv_aload hx hb dL_build_438 (lv_at hl 9 rfl) ?_
                              refine lv_bipush (v := nI 9) hx hb dL_build_440 (by decide) ?_
                              refine lv_iload hx hb dL_build_442 (lv_at hl 4 rfl) ?_
                              refine lv_imul hx hb dL_build_444 ?_
                              refine xtop (show ((nI 9) * (nI (u))) = nI (9 * u) from pk_mul 9 u) ?_
                              refine lv_iload hx hb dL_build_445 (lv_at hl 1 rfl) ?_
                              refine lv_iadd hx hb dL_build_447 ?_
                              refine xtop (show ((nI (9 * u)) + (nI (t))) = nI ((9 * u) + t) from nI_add (9 * u) t) ?_
                              refine lv_iload hx hb dL_build_448 (lv_at hl 0 rfl) ?_
                              refine xiast (D := D) hx hb hK hS 0 (hWa) hwA rfl (i := nI ((9 * u) + t)) (x := nI (1 + (belN (xv >>> (nI 1 &&& 31)) (25)))) (vp_in_nI (n := (9 * u) + t) (by omega) (by omega)) dL_build_450 (fun H2 locs hU hS => ?_)
                              rw [nI_clamp (n := (9 * u) + t) (by omega)] at hU
                              have hX2 := hX2.out hA9 hwF hU
                              have hWa := hU.1
                              refine lv_aload hx hb dL_build_451 (lv_at hl 9 rfl) ?_
                              refine lv_bipush (v := nI 9) hx hb dL_build_453 (by decide) ?_
                              refine lv_iload hx hb dL_build_455 (lv_at hl 1 rfl) ?_
                              refine lv_imul hx hb dL_build_457 ?_
                              refine xtop (show ((nI 9) * (nI (t))) = nI (9 * t) from pk_mul 9 t) ?_
                              refine lv_iload hx hb dL_build_458 (lv_at hl 4 rfl) ?_
                              refine lv_iadd hx hb dL_build_460 ?_
                              refine xtop (show ((nI (9 * t)) + (nI (u))) = nI ((9 * t) + u) from nI_add (9 * t) u) ?_
                              refine lv_iload hx hb dL_build_461 (lv_at hl 0 rfl) ?_
                              refine xiast (D := D) hx hb hK hS 0 (hWa) hwA rfl (i := nI ((9 * t) + u)) (x := nI (1 + (belN (xv >>> (nI 1 &&& 31)) (25)))) (vp_in_nI (n := (9 * t) + u) (by omega) (by omega)) dL_build_463 (fun H3 locs hU hS => ?_)
                              rw [nI_clamp (n := (9 * t) + u) (by omega)] at hU
                              have hX2 := hX2.out hA9 hwF hU
                              have hWa := hU.1
                              obtain ⟨hB, hF9⟩ := bS_sm (t := t) hB (by rw [hNn]; exact hF9) (by omega) (by omega) (by omega) (by omega) hX2 hg2 hw2 hWa
                              rw [hNn] at hF9
                              refine lv_iinc (v := nI (t + 1)) (lv' := [(9, .int (nI (t + 1))), (12, .int (nI (1 + (belN (xv >>> (nI 1 &&& 31)) (25))))), (11, .int (nI (t))), (10, .int (xv)), (8, .int (nI (u))), (7, .int (nI (n))), (0, .ref (adA 0 0)), (1, .ref (b)), (2, .int (nI (0))), (4, .ref (w))]) hx hb dL_build_464 hl (k := 3) rfl (nI_add t 1) (by decide) rfl (fun ls hl => ?_)
                              refine lv_goto (tgt := 337) hx hb dL_build_467 (by decide) ?_
                              refine W.widen (k := 342 + 7 * u + (t + 1)) (n := 2532 + 42 * u + 6 * (t + 1)) (by omega) (by omega) ?_
                              exact ih337 (t + 1) g2 H3 locs _ (by omega) (by omega) hB hF9 hS (by omega) (lv_sub hl [0, 4, 5, 6, 7, 8, 9] rfl)
                            · refine lv_goto (tgt := 464) hx hb dL_build_394 (by decide) ?_
                              refine lv_iinc (v := nI (t + 1)) (lv' := [(9, .int (nI (t + 1))), (11, .int (nI (t))), (10, .int (xv)), (8, .int (nI (u))), (7, .int (nI (n))), (0, .ref (adA 0 0)), (1, .ref (b)), (2, .int (nI (0))), (4, .ref (w))]) hx hb dL_build_464 hl (k := 2) rfl (nI_add t 1) (by decide) rfl (fun ls hl => ?_)
                              refine lv_goto (tgt := 337) hx hb dL_build_467 (by decide) ?_
                              refine W.widen (k := 342 + 7 * u + (t + 1)) (n := 2532 + 42 * u + 6 * (t + 1)) (by omega) (by omega) ?_
                              exact ih337 (t + 1) gD H locs _ (by omega) (by omega) hB (bF_b hF9) hS (by omega) (lv_sub hl [0, 3, 4, 5, 6, 7, 8] rfl)
                          · have c373 : t = n := (nI_eq (a := t) (b := n) (by omega) (by omega)).mp c373
                            refine lv_bipush (v := nI 8) hx hb dL_build_376 (by decide) ?_
                            refine lv_goto (tgt := 383) hx hb dL_build_378 (by decide) ?_
                            refine lv_istore (lv' := [(11, .int (nI 8)), (10, .int (xv)), (9, .int (nI (t))), (8, .int (nI (u))), (7, .int (nI (n))), (0, .ref (adA 0 0)), (1, .ref (b)), (2, .int (nI (0))), (4, .ref (w))]) hx hb dL_build_383 hl (by decide) rfl (fun ls hl => ?_)
                            refine lv_iload hx hb dL_build_385 (lv_at hl 1 rfl) ?_
                            refine lv_iconst (v := nI 4) hx hb dL_build_387 (by decide) ?_
                            have hlt388 : belN (xv) (4) < 4 := bel_lt _ (by omega)
                            refine xcRi (va_runS (As := [.int (xv), .int (nI 4)]) (rest := []) ⟨hx, hb, hml, hown, hts⟩ (c_L_below l D cA e0 A H (xv) (4) (by omega) (by omega)) ⟨(callB_of 2 hts gi_L_below rfl rfl rfl (hts _ q_ini_L) (hts _ q_ml_L_15) hd_L_below ⟨Nat.le_of_ble_eq_true rfl, Nat.le_of_ble_eq_true rfl⟩), hts _ q_st_L_below⟩ (xpS hE hS) rfl rfl hl.1 rfl (lv_room (Nat.le_of_ble_eq_true rfl)) dL_build_388 ⟨(show (342 + 7 * u + t) + 0 ≤ 384 by omega), (show (2532 + 42 * u + 6 * t) + 0 ≤ 2784 by omega)⟩) ?_
                            refine lv_if_ne (tgt := 397) hx hb dL_build_391 (by decide) (fun c391 => ?_) (fun c391 => ?_)
                            · refine lv_iconst (v := nI 1) hx hb dL_build_397 (by decide) ?_
                              refine lv_iload hx hb dL_build_398 (lv_at hl 1 rfl) ?_
                              refine lv_iconst (v := nI 1) hx hb dL_build_400 (by decide) ?_
                              refine lv_ishr hx hb dL_build_401 ?_
                              refine lv_bipush (v := nI 25) hx hb dL_build_402 (by decide) ?_
                              have hlt404 : belN (xv >>> (nI 1 &&& 31)) (25) < 25 := bel_lt _ (by omega)
                              refine xcRi (va_runS (As := [.int (xv >>> (nI 1 &&& 31)), .int (nI 25)]) (rest := [.int (nI 1)]) ⟨hx, hb, hml, hown, hts⟩ (c_L_below l D cA e0 A H (xv >>> (nI 1 &&& 31)) (25) (by omega) (by omega)) ⟨(callB_of 2 hts gi_L_below rfl rfl rfl (hts _ q_ini_L) (hts _ q_ml_L_15) hd_L_below ⟨Nat.le_of_ble_eq_true rfl, Nat.le_of_ble_eq_true rfl⟩), hts _ q_st_L_below⟩ (xpS hE hS) rfl rfl hl.1 rfl (lv_room (Nat.le_of_ble_eq_true rfl)) dL_build_404 ⟨(show (342 + 7 * u + t) + 0 ≤ 384 by omega), (show (2532 + 42 * u + 6 * t) + 0 ≤ 2784 by omega)⟩) ?_
                              refine lv_iadd hx hb dL_build_407 ?_
                              refine xtop (show ((nI 1) + (nI (belN (xv >>> (nI 1 &&& 31)) (25)))) = nI (1 + (belN (xv >>> (nI 1 &&& 31)) (25))) from nI_add 1 (belN (xv >>> (nI 1 &&& 31)) (25))) ?_
                              refine lv_istore (lv' := [(12, .int (nI (1 + (belN (xv >>> (nI 1 &&& 31)) (25))))), (11, .int (nI 8)), (10, .int (xv)), (9, .int (nI (t))), (8, .int (nI (u))), (7, .int (nI (n))), (0, .ref (adA 0 0)), (1, .ref (b)), (2, .int (nI (0))), (4, .ref (w))]) hx hb dL_build_408 hl (by decide) rfl (fun ls hl => ?_)
                              refine lv_aload_n hx hb dL_build_410 rfl (lv_at hl 6 rfl) ?_
                              refine lv_iload hx hb dL_build_411 (lv_at hl 3 rfl) ?_
                              refine lv_iload hx hb dL_build_413 (lv_at hl 5 rfl) ?_
                              refine lv_icmp_ne (tgt := 422) hx hb dL_build_415 (by decide) (fun hno => absurd hno ((fun z => z (by rw [c373])))) (fun _ => ?_)
                              refine lv_iconst (v := (-1)) hx hb dL_build_418 (by decide) ?_
                              refine lv_goto (tgt := 424) hx hb dL_build_419 (by decide) ?_
                              refine lv_iload hx hb dL_build_424 (lv_at hl 4 rfl) ?_
                              refine lv_iload hx hb dL_build_426 (lv_at hl 0 rfl) ?_
                              have hok1 : okP (NA 0) ((-1)) ∧ okP (NA 0) (nI (u)) := ⟨(Or.inl rfl), Or.inr ⟨u, by omega, rfl⟩⟩
                              have hok2 : ((-1)) ≠ nI (u) ∧ okR 1 200 (nI (1 + (belN (xv >>> (nI 1 &&& 31)) (25)))) := ⟨(m1_ne (by omega)), _, by omega, by omega, rfl⟩
                              refine xcXi (vx_runV (As := [.int ((-1)), .int (nI (u)), .int (nI (1 + (belN (xv >>> (nI 1 &&& 31)) (25))))]) (rest := []) ⟨hx, hb, hml, hown, hts⟩ (c_X4_setMinutes l D cA e0 Fc H adA gD (fun _ => 0) NA hB.1 ((-1)) (nI (u)) (nI (1 + (belN (xv >>> (nI 1 &&& 31)) (25)))) hB.2.1 hl9) ⟨(callB_of 3 hts gi_X4_setMinutes rfl rfl rfl (hts _ q_ini_X4) (hts _ q_ml_L_33) hd_X4_setMinutes ⟨Nat.le_of_ble_eq_true rfl, Nat.le_of_ble_eq_true rfl⟩), hts _ q_im_X4_setMinutes, hts _ q_sel_X4_X4_setMinutes⟩ (xpVn hE hS hF hB.1.main rfl) rfl rfl hl.1 rfl (lv_room (Nat.le_of_ble_eq_true rfl)) dL_build_428 ⟨(show (342 + 7 * u + t) + 1 ≤ 384 by omega), (show (2532 + 42 * u + 6 * t) + 6 ≤ 2784 by omega)⟩) hS hF (fun E9 ce9 q9 H9 locs9 hPX9 hz9 hk9 hS9 hc9 hv9 hcl9 => ?_) (fun r_4 H4 locs hP9 hz9 hk9 hS => ?_)
                              · exact (hPX9.elim (fun z => z.2 hok1) (fun z => z.2.2 hok2)).elim
                              obtain ⟨-, hr9, g2, hX2, hg2, hw2⟩ := hP9
                              rw [plN_d, plN_i (b := u) (by omega)] at hr9 hg2
                              rw [hr9, show wy gD 8 u = nI 20 from hF9 u 8 (by omega) (by omega) (Or.inr ⟨rfl, by omega, by omega⟩)]
                              have hWa := hB.2.2.2.2.2.2.2.2.1.kept (hk9 _ hB.2.2.2.2.2.2.2.2.1.lt hwF)
                              have hA9 := hB.2.1
                              refine lv_bipush (v := nI 20) hx hb dL_build_431 (by decide) ?_
                              refine lv_icmp_eq (tgt := 438) hx hb dL_build_433 (by decide) (fun _ => ?_) (fun hno => absurd (rfl) hno)
                              refine lv_aload hx hb dL_build_438 (lv_at hl 9 rfl) ?_
                              refine lv_bipush (v := nI 9) hx hb dL_build_440 (by decide) ?_
                              refine lv_iload hx hb dL_build_442 (lv_at hl 4 rfl) ?_
                              refine lv_imul hx hb dL_build_444 ?_
                              refine xtop (show ((nI 9) * (nI (u))) = nI (9 * u) from pk_mul 9 u) ?_
                              refine lv_iload hx hb dL_build_445 (lv_at hl 1 rfl) ?_
                              refine lv_iadd hx hb dL_build_447 ?_
                              refine xtop (show ((nI (9 * u)) + (nI 8)) = nI ((9 * u) + 8) from nI_add (9 * u) 8) ?_
                              refine lv_iload hx hb dL_build_448 (lv_at hl 0 rfl) ?_
                              refine xiast (D := D) hx hb hK hS 0 (hWa) hwA rfl (i := nI ((9 * u) + 8)) (x := nI (1 + (belN (xv >>> (nI 1 &&& 31)) (25)))) (vp_in_nI (n := (9 * u) + 8) (by omega) (by omega)) dL_build_450 (fun H5 locs hU hS => ?_)
                              rw [nI_clamp (n := (9 * u) + 8) (by omega)] at hU
                              have hX2 := hX2.out hA9 hwF hU
                              have hWa := hU.1
                              refine lv_aload hx hb dL_build_451 (lv_at hl 9 rfl) ?_
                              refine lv_bipush (v := nI 9) hx hb dL_build_453 (by decide) ?_
                              refine lv_iload hx hb dL_build_455 (lv_at hl 1 rfl) ?_
                              refine lv_imul hx hb dL_build_457 ?_
                              refine xtop (show ((nI 9) * (nI 8)) = nI (9 * 8) from pk_mul 9 8) ?_
                              refine lv_iload hx hb dL_build_458 (lv_at hl 4 rfl) ?_
                              refine lv_iadd hx hb dL_build_460 ?_
                              refine xtop (show ((nI (9 * 8)) + (nI (u))) = nI ((9 * 8) + u) from nI_add (9 * 8) u) ?_
                              refine lv_iload hx hb dL_build_461 (lv_at hl 0 rfl) ?_
                              refine xiast (D := D) hx hb hK hS 0 (hWa) hwA rfl (i := nI ((9 * 8) + u)) (x := nI (1 + (belN (xv >>> (nI 1 &&& 31)) (25)))) (vp_in_nI (n := (9 * 8) + u) (by omega) (by omega)) dL_build_463 (fun H6 locs hU hS => ?_)
                              rw [nI_clamp (n := (9 * 8) + u) (by omega)] at hU
                              have hX2 := hX2.out hA9 hwF hU
                              have hWa := hU.1
                              obtain ⟨hB, hF9⟩ := bS_sm (t := 8) hB (by rw [hNn]; exact hF9) (by omega) (by omega) (by omega) (by omega) hX2 hg2 hw2 hWa
                              rw [hNn] at hF9
                              refine lv_iinc (v := nI (t + 1)) (lv' := [(9, .int (nI (t + 1))), (12, .int (nI (1 + (belN (xv >>> (nI 1 &&& 31)) (25))))), (11, .int (nI 8)), (10, .int (xv)), (8, .int (nI (u))), (7, .int (nI (n))), (0, .ref (adA 0 0)), (1, .ref (b)), (2, .int (nI (0))), (4, .ref (w))]) hx hb dL_build_464 hl (k := 3) rfl (nI_add t 1) (by decide) rfl (fun ls hl => ?_)
                              refine lv_goto (tgt := 337) hx hb dL_build_467 (by decide) ?_
                              refine W.widen (k := 342 + 7 * u + (t + 1)) (n := 2532 + 42 * u + 6 * (t + 1)) (by omega) (by omega) ?_
                              exact ih337 (t + 1) g2 H6 locs _ (by omega) (by omega) hB hF9 hS (by omega) (lv_sub hl [0, 4, 5, 6, 7, 8, 9] rfl)
                            · refine lv_goto (tgt := 464) hx hb dL_build_394 (by decide) ?_
                              refine lv_iinc (v := nI (t + 1)) (lv' := [(9, .int (nI (t + 1))), (11, .int (nI 8)), (10, .int (xv)), (8, .int (nI (u))), (7, .int (nI (n))), (0, .ref (adA 0 0)), (1, .ref (b)), (2, .int (nI (0))), (4, .ref (w))]) hx hb dL_build_464 hl (k := 2) rfl (nI_add t 1) (by decide) rfl (fun ls hl => ?_)
                              refine lv_goto (tgt := 337) hx hb dL_build_467 (by decide) ?_
                              refine W.widen (k := 342 + 7 * u + (t + 1)) (n := 2532 + 42 * u + 6 * (t + 1)) (by omega) (by omega) ?_
                              exact ih337 (t + 1) gD H locs _ (by omega) (by omega) hB (bF_b hF9) hS (by omega) (lv_sub hl [0, 3, 4, 5, 6, 7, 8] rfl)
                    refine W.widen (k := 342 + 7 * u + (u + 1)) (n := 2532 + 42 * u + 6 * (u + 1)) (by omega) (by omega) ?_
                    exact LOOP337 _ (u + 1) gC H locs _ (by omega) (by omega) hB hF9 hS (Nat.lt_succ_self _) (lv_sub hl [0, 1, 2, 3, 4, 5, 6] rfl)
              refine W.widen (k := 342 + 7 * 0) (n := 2532 + 42 * 0) (by omega) (by omega) ?_
              exact LOOP324 _ 0 gA H locs _ (by omega) hB (bF_0 hQ.2.2 (by omega)) hS (Nat.lt_succ_self _) (lv_sub hl [0, 1, 2, 3, 4, 5] rfl)
            · have c60 : ¬ (n ≤ i) := fun z => c60 ((nI_leI (a := n) (b := i) (by omega) (by omega)).mpr z)
              refine lv_aload hx hb dL_build_63 (lv_at hl 6 rfl) ?_
              refine lv_iconst (v := nI 3) hx hb dL_build_65 (by decide) ?_
              refine lv_iload hx hb dL_build_66 (lv_at hl 0 rfl) ?_
              refine lv_imul hx hb dL_build_68 ?_
              refine xtop (show ((nI 3) * (nI (i))) = nI (3 * i) from pk_mul 3 i) ?_
              refine lv_aload_n hx hb dL_build_69 rfl (lv_at hl 3 rfl) ?_
              refine lv_iload_n hx hb dL_build_70 rfl (lv_at hl 4 rfl) ?_
              refine xcRi (va_runS (As := [.ref (b), .int (nI (0))]) (rest := [.int (nI (3 * i)), .ref (mm)]) ⟨hx, hb, hml, hown, hts⟩ (c_L_cell l D cA e0 A H b L xs (0) hbA hLm (by omega)) ⟨(callB_of 2 hts gi_L_cell rfl rfl rfl (hts _ q_ini_L) (hts _ q_ml_L_9) hd_L_cell ⟨Nat.le_of_ble_eq_true rfl, Nat.le_of_ble_eq_true rfl⟩), hts _ q_st_L_cell⟩ (xpSs hE hXs hbl hbA hS (fun q h => h)) rfl rfl hl.1 rfl (lv_room (Nat.le_of_ble_eq_true rfl)) dL_build_71 ⟨(show (57 * i) + 0 ≤ 384 by omega), (show (422 * i) + 0 ≤ 2784 by omega)⟩) ?_
              refine lv_iconst (v := nI 4) hx hb dL_build_74 (by decide) ?_
              refine lv_iload hx hb dL_build_75 (lv_at hl 0 rfl) ?_
              refine lv_iadd hx hb dL_build_77 ?_
              refine xtop (show ((nI 4) + (nI (i))) = nI (4 + i) from nI_add 4 i) ?_
              refine lv_ishr hx hb dL_build_78 ?_
              refine lv_iconst (v := nI 3) hx hb dL_build_79 (by decide) ?_
              have hlt80 : belN ((cellF xs L (0)) >>> (nI (4 + i) &&& 31)) (3) < 3 := bel_lt _ (by omega)
              refine xcRi (va_runS (As := [.int ((cellF xs L (0)) >>> (nI (4 + i) &&& 31)), .int (nI 3)]) (rest := [.int (nI (3 * i)), .ref (mm)]) ⟨hx, hb, hml, hown, hts⟩ (c_L_below l D cA e0 A H ((cellF xs L (0)) >>> (nI (4 + i) &&& 31)) (3) (by omega) (by omega)) ⟨(callB_of 2 hts gi_L_below rfl rfl rfl (hts _ q_ini_L) (hts _ q_ml_L_15) hd_L_below ⟨Nat.le_of_ble_eq_true rfl, Nat.le_of_ble_eq_true rfl⟩), hts _ q_st_L_below⟩ (xpS hE hS) rfl rfl hl.1 rfl (lv_room (Nat.le_of_ble_eq_true rfl)) dL_build_80 ⟨(show (57 * i) + 0 ≤ 384 by omega), (show (422 * i) + 0 ≤ 2784 by omega)⟩) ?_
              have J113 : ∀ a0 : Nat, 100 ≤ a0 → a0 ≤ 100000 → W p l e (headSpec w_L_build ({ frames := 9, cells := 384, slots := 2784, locals := 196 } : Room)).room s m ([.ref (ad 0 0), .ref (b), .int (nI (0)), .int (nI (6)), .ref (w), .ref (mm), .ref (sl)] : List Value).toArray below meth c H locs (57 * i) (422 * i) (MQ below (xQi (fun r h => r = nI (1 + belN (cellF xs L 0) 6) ∧ ∃ ad2 g N, N 0 = 1 + belN (cellF xs L 0) 6 ∧ bS D cA e0 Fc (ad 0 0) w ad2 g N h) A) ([.ref (ad 0 0), .ref (b), .int (nI (0)), .int (nI (6)), .ref (w), .ref (mm), .ref (sl)] : List Value).toArray s 384 2784 (A)) (F0 m 113 ls [.int (nI (a0)), .int (nI (3 * i)), .ref (mm)]) := by
                intro a0 ha0 ha1
                refine xiast (D := D) hx hb hK hS 0 (hMa) hmA rfl (i := nI (3 * i)) (x := nI (a0)) (vp_in_nI (n := 3 * i) (by omega) (by omega)) dL_build_113 (fun H7 locs hU hS => ?_)
                rw [nI_clamp (n := 3 * i) (by omega)] at hU
                have hB := bS_out hB hmF hwm.symm hU
                have hSa := hSa.kept (hU.2.2 _ hms.symm)
                have hMa := hU.1
                refine lv_aload_n hx hb dL_build_114 rfl (lv_at hl 2 rfl) ?_
                refine lv_aload hx hb dL_build_115 (lv_at hl 6 rfl) ?_
                refine lv_iconst (v := nI 3) hx hb dL_build_117 (by decide) ?_
                refine lv_iload hx hb dL_build_118 (lv_at hl 0 rfl) ?_
                refine lv_imul hx hb dL_build_120 ?_
                refine xtop (show ((nI 3) * (nI (i))) = nI (3 * i) from pk_mul 3 i) ?_
                refine va_iald hx hb hK (xP1 (hMa)) 0 0 rfl rfl (i := nI (3 * i)) (vp_in_nI (n := 3 * i) (by omega) (by omega)) dL_build_121 ?_
                refine xtop (show (upd (fmA) (3 * i) (nI (a0)) (nI (3 * i)).toNatClampNeg) = nI (a0) from by rw [nI_clamp (n := 3 * i) (by omega), upd_eq]) ?_
                refine xcXi (vx_runV (As := [.int (nI (a0))]) (rest := []) ⟨hx, hb, hml, hown, hts⟩ (c_X4_addMachine l D cA e0 Fc H7 adA gA (fun _ => 0) NA hB.1 (nI (a0)) hB.2.1 (fun q h => hAn q (Nat.le_trans hS.1 h)) hl9 (bQ_dfl (by rw [hN0]; exact hQ)) (fun k hk => absurd hk (by rw [hB.2.2.2.1]; exact Nat.not_lt_zero _)) hN2) ⟨(callB_of 1 hts gi_X4_addMachine rfl rfl rfl (hts _ q_ini_X4) (hts _ q_ml_L_20) hd_X4_addMachine ⟨Nat.le_of_ble_eq_true rfl, Nat.le_of_ble_eq_true rfl⟩), hts _ q_im_X4_addMachine, hts _ q_sel_X4_X4_addMachine⟩ (xpVn hE hS hF hB.1.main rfl) rfl rfl hl.1 rfl (lv_room (Nat.le_of_ble_eq_true rfl)) dL_build_122 ⟨(show (57 * i) + 9 ≤ 384 by omega), (show (422 * i) + 56 ≤ 2784 by omega)⟩) hS hF (fun E9 ce9 q9 H9 locs9 hPX9 hz9 hk9 hS9 hc9 hv9 hcl9 => ?_) (fun r_8 H8 locs hP9 hz9 hk9 hS => ?_)
                · exact (hPX9.elim (fun z => z.2 ⟨a0, ha0, ha1, rfl⟩) (fun z => z.2.2 (by omega))).elim
                obtain ⟨-, -, hr9, ad2, g2, hX2, hA2, hx2, hg2, hw2⟩ := hP9
                obtain ⟨hB, hQ⟩ := bS_am hB (by rw [hN0]; exact hQ) rfl ha1 hX2 hA2 hx2 hg2 hw2 (hk9 _ hB.2.2.2.2.2.2.2.2.1.lt hwF)
                have hMa := hMa.kept (hk9 _ hMa.lt hmF)
                have hSa := hSa.kept (hk9 _ hSa.lt hsF)
                rw [amN_0, hN0] at hQ
                have hN1 : amN' NA 0 = i + 1 := by rw [amN_0, hN0]
                rw [show adA 0 0 = ad2 0 0 from hx2.symm] at hl
                rw [hr9, hN0]
                refine lv_iload hx hb dL_build_125 (lv_at hl 0 rfl) ?_
                refine lv_icmp_eq (tgt := 132) hx hb dL_build_127 (by decide) (fun _ => ?_) (fun hno => absurd (rfl) hno)
                refine lv_iconst (v := nI 0) hx hb dL_build_132 (by decide) ?_
                refine lv_istore (lv' := [(9, .int (nI 0)), (8, .int (nI (i))), (7, .int (nI (n))), (0, .ref (ad2 0 0)), (1, .ref (b)), (2, .int (nI (0))), (4, .ref (w)), (5, .ref (mm)), (6, .ref (sl))]) hx hb dL_build_133 hl (by decide) rfl (fun ls hl => ?_)
                have LOOP135 : ∀ (n135 : Nat) (j : Nat) (gB : Nat → Nat → Int32) (fsB : Nat → Int32) (H : Heap) (locs : List Loc) (ls : Array Slot), (j ≤ 6) → (bS D cA e0 Fc (ad 0 0) w ad2 gB (amN' NA) H) → (bQ gB (i + 1) (6 * i + j)) → (va_at D vwCl (mm, .inl (cA 0, 24, .inl (upd fmA (3 * i) (nI (a0))))) H) → (va_at D vwCl (sl, .inl (cA 0, 288, .inl (fsB))) H) → va_S A s.heap H locs → (6 - j) < n135 → lv_has ls 13 [(9, .int (nI (j))), (8, .int (nI (i))), (7, .int (nI (n))), (0, .ref (ad2 0 0)), (1, .ref (b)), (2, .int (nI (0))), (4, .ref (w)), (5, .ref (mm)), (6, .ref (sl))] → W p l e (headSpec w_L_build ({ frames := 9, cells := 384, slots := 2784, locals := 196 } : Room)).room s m ([.ref (ad 0 0), .ref (b), .int (nI (0)), .int (nI (6)), .ref (w), .ref (mm), .ref (sl)] : List Value).toArray below meth c H locs (57 * i + 9 + 8 * j) (422 * i + 56 + 61 * j) (MQ below (xQi (fun r h => r = nI (1 + belN (cellF xs L 0) 6) ∧ ∃ ad2 g N, N 0 = 1 + belN (cellF xs L 0) 6 ∧ bS D cA e0 Fc (ad 0 0) w ad2 g N h) A) ([.ref (ad 0 0), .ref (b), .int (nI (0)), .int (nI (6)), .ref (w), .ref (mm), .ref (sl)] : List Value).toArray s 384 2784 (A)) (F0 m 135 ls []) := by
                  intro n135
                  induction n135 with
                  | zero => intro j gB fsB H locs ls hj hB hQ hMa hSa hS hmeas hl; exact absurd hmeas (Nat.not_lt_zero _)
                  | succ n135 ih135 =>
                    intro j gB fsB H locs ls hj hB hQ hMa hSa hS hmeas hl
                    refine lv_iload hx hb dL_build_135 (lv_at hl 0 rfl) ?_
                    refine lv_bipush (v := nI 6) hx hb dL_build_137 (by decide) ?_
                    refine lv_icmp_ge (tgt := 315) hx hb dL_build_139 (by decide) (fun c139 => ?_) (fun c139 => ?_)
                    · have c139 : 6 ≤ j := (nI_leI (a := 6) (b := j) (by omega) (by omega)).mp c139
                      refine lv_iinc (v := nI (i + 1)) (lv' := [(8, .int (nI (i + 1))), (9, .int (nI (j))), (7, .int (nI (n))), (0, .ref (ad2 0 0)), (1, .ref (b)), (2, .int (nI (0))), (4, .ref (w)), (5, .ref (mm)), (6, .ref (sl))]) hx hb dL_build_315 hl (k := 1) rfl (nI_add i 1) (by decide) rfl (fun ls hl => ?_)
                      refine lv_goto (tgt := 56) hx hb dL_build_318 (by decide) ?_
                      refine W.widen (k := 57 * (i + 1)) (n := 422 * (i + 1)) (by omega) (by omega) ?_
                      exact ih56 (i + 1) ad2 gB (amN' NA) _ _ H locs _ (by omega) hN1 (Or.inr amN_2) hB (bQ_up hQ (by omega)) hMa hSa hS (by omega) (lv_sub hl [0, 2, 3, 4, 5, 6, 7, 8] rfl)
                    · have c139 : ¬ (6 ≤ j) := fun z => c139 ((nI_leI (a := 6) (b := j) (by omega) (by omega)).mpr z)
                      refine lv_bipush (v := nI 36) hx hb dL_build_142 (by decide) ?_
                      refine lv_iload hx hb dL_build_144 (lv_at hl 1 rfl) ?_
                      refine lv_imul hx hb dL_build_146 ?_
                      refine xtop (show ((nI 36) * (nI (i))) = nI (36 * i) from pk_mul 36 i) ?_
                      refine lv_bipush (v := nI 6) hx hb dL_build_147 (by decide) ?_
                      refine lv_iload hx hb dL_build_149 (lv_at hl 0 rfl) ?_
                      refine lv_imul hx hb dL_build_151 ?_
                      refine xtop (show ((nI 6) * (nI (j))) = nI (6 * j) from pk_mul 6 j) ?_
                      refine lv_iadd hx hb dL_build_152 ?_
                      refine xtop (show ((nI (36 * i)) + (nI (6 * j))) = nI ((36 * i) + (6 * j)) from nI_add (36 * i) (6 * j)) ?_
                      refine lv_istore (lv' := [(10, .int (nI ((36 * i) + (6 * j)))), (9, .int (nI (j))), (8, .int (nI (i))), (7, .int (nI (n))), (0, .ref (ad2 0 0)), (1, .ref (b)), (2, .int (nI (0))), (4, .ref (w)), (5, .ref (mm)), (6, .ref (sl))]) hx hb dL_build_153 hl (by decide) rfl (fun ls hl => ?_)
                      refine lv_aload hx hb dL_build_155 (lv_at hl 9 rfl) ?_
                      refine lv_iload hx hb dL_build_157 (lv_at hl 0 rfl) ?_
                      refine lv_iconst (v := nI 2) hx hb dL_build_159 (by decide) ?_
                      refine lv_iadd hx hb dL_build_160 ?_
                      refine xtop (show ((nI ((36 * i) + (6 * j))) + (nI 2)) = nI (((36 * i) + (6 * j)) + 2) from nI_add ((36 * i) + (6 * j)) 2) ?_
                      refine lv_bipush (v := nI 100) hx hb dL_build_161 (by decide) ?_
                      refine xiast (D := D) hx hb hK hS 0 (hSa) hsA rfl (i := nI (((36 * i) + (6 * j)) + 2)) (x := nI 100) (vp_in_nI (n := ((36 * i) + (6 * j)) + 2) (by omega) (by omega)) dL_build_163 (fun H9 locs hU hS => ?_)
                      rw [nI_clamp (n := ((36 * i) + (6 * j)) + 2) (by omega)] at hU
                      have hB := bS_out hB hsF hws.symm hU
                      have hMa := hMa.kept (hU.2.2 _ hms)
                      have hSa := hU.1
                      refine lv_aload_n hx hb dL_build_164 rfl (lv_at hl 5 rfl) ?_
                      refine lv_iload_n hx hb dL_build_165 rfl (lv_at hl 6 rfl) ?_
                      refine lv_iconst (v := nI 1) hx hb dL_build_166 (by decide) ?_
                      refine lv_iadd hx hb dL_build_167 ?_
                      refine xtop (show ((nI (0)) + (nI 1)) = nI (0 + 1) from nI_add 0 1) ?_
                      refine lv_iload hx hb dL_build_168 (lv_at hl 2 rfl) ?_
                      refine lv_iload hx hb dL_build_170 (lv_at hl 1 rfl) ?_
                      refine lv_iadd hx hb dL_build_172 ?_
                      refine xtop (show ((nI (i)) + (nI (j))) = nI (i + j) from nI_add i j) ?_
                      refine lv_iconst (v := nI 4) hx hb dL_build_173 (by decide) ?_
                      refine lv_irem hx hb dL_build_174 (by decide) ?_
                      refine xtop (show ((nI (i + j)) - (nI (i + j)) / (nI 4) * (nI 4)) = nI ((i + j) % 4) from pk_rem (by omega) (by omega) (by omega)) ?_
                      refine lv_iadd hx hb dL_build_175 ?_
                      refine xtop (show ((nI (0 + 1)) + (nI ((i + j) % 4))) = nI ((0 + 1) + ((i + j) % 4)) from nI_add (0 + 1) ((i + j) % 4)) ?_
                      refine xcRi (va_runS (As := [.ref (b), .int (nI ((0 + 1) + ((i + j) % 4)))]) (rest := []) ⟨hx, hb, hml, hown, hts⟩ (c_L_cell l D cA e0 A H9 b L xs ((0 + 1) + ((i + j) % 4)) hbA hLm (by omega)) ⟨(callB_of 2 hts gi_L_cell rfl rfl rfl (hts _ q_ini_L) (hts _ q_ml_L_9) hd_L_cell ⟨Nat.le_of_ble_eq_true rfl, Nat.le_of_ble_eq_true rfl⟩), hts _ q_st_L_cell⟩ (xpSs hE hXs hbl hbA hS (fun q h => h)) rfl rfl hl.1 rfl (lv_room (Nat.le_of_ble_eq_true rfl)) dL_build_176 ⟨(show (57 * i + 9 + 8 * j) + 0 ≤ 384 by omega), (show (422 * i + 56 + 61 * j) + 0 ≤ 2784 by omega)⟩) ?_
                      refine lv_iload hx hb dL_build_179 (lv_at hl 2 rfl) ?_
                      refine lv_iconst (v := nI 2) hx hb dL_build_181 (by decide) ?_
                      refine lv_iload hx hb dL_build_182 (lv_at hl 1 rfl) ?_
                      refine lv_imul hx hb dL_build_184 ?_
                      refine xtop (show ((nI 2) * (nI (j))) = nI (2 * j) from pk_mul 2 j) ?_
                      refine lv_iadd hx hb dL_build_185 ?_
                      refine xtop (show ((nI (i)) + (nI (2 * j))) = nI (i + (2 * j)) from nI_add i (2 * j)) ?_
                      refine lv_ishr hx hb dL_build_186 ?_
                      generalize ((cellF xs L ((0 + 1) + ((i + j) % 4))) >>> (nI (i + (2 * j)) &&& 31)) = xv
                      refine lv_istore (lv' := [(11, .int (xv)), (10, .int (nI ((36 * i) + (6 * j)))), (9, .int (nI (j))), (8, .int (nI (i))), (7, .int (nI (n))), (0, .ref (ad2 0 0)), (1, .ref (b)), (2, .int (nI (0))), (4, .ref (w)), (5, .ref (mm)), (6, .ref (sl))]) hx hb dL_build_187 hl (by decide) rfl (fun ls hl => ?_)
                      refine lv_iload hx hb dL_build_189 (lv_at hl 0 rfl) ?_
                      refine lv_iconst (v := nI 2) hx hb dL_build_191 (by decide) ?_
                      have hlt192 : belN (xv) (2) < 2 := bel_lt _ (by omega)
                      refine xcRi (va_runS (As := [.int (xv), .int (nI 2)]) (rest := []) ⟨hx, hb, hml, hown, hts⟩ (c_L_below l D cA e0 A H9 (xv) (2) (by omega) (by omega)) ⟨(callB_of 2 hts gi_L_below rfl rfl rfl (hts _ q_ini_L) (hts _ q_ml_L_15) hd_L_below ⟨Nat.le_of_ble_eq_true rfl, Nat.le_of_ble_eq_true rfl⟩), hts _ q_st_L_below⟩ (xpS hE hS) rfl rfl hl.1 rfl (lv_room (Nat.le_of_ble_eq_true rfl)) dL_build_192 ⟨(show (57 * i + 9 + 8 * j) + 0 ≤ 384 by omega), (show (422 * i + 56 + 61 * j) + 0 ≤ 2784 by omega)⟩) ?_
                      refine lv_if_ne (tgt := 201) hx hb dL_build_195 (by decide) (fun c195 => ?_) (fun c195 => ?_)
                      · refine lv_aload hx hb dL_build_201 (lv_at hl 10 rfl) ?_
                        refine lv_iload hx hb dL_build_203 (lv_at hl 1 rfl) ?_
                        refine lv_iload hx hb dL_build_205 (lv_at hl 0 rfl) ?_
                        refine lv_iconst (v := nI 1) hx hb dL_build_207 (by decide) ?_
                        refine lv_ishr hx hb dL_build_208 ?_
                        refine lv_bipush (v := nI 13) hx hb dL_build_209 (by decide) ?_
                        have hlt211 : belN (xv >>> (nI 1 &&& 31)) (13) < 13 := bel_lt _ (by omega)
                        refine xcRi (va_runS (As := [.int (xv >>> (nI 1 &&& 31)), .int (nI 13)]) (rest := [.int (nI ((36 * i) + (6 * j))), .ref (sl)]) ⟨hx, hb, hml, hown, hts⟩ (c_L_below l D cA e0 A H9 (xv >>> (nI 1 &&& 31)) (13) (by omega) (by omega)) ⟨(callB_of 2 hts gi_L_below rfl rfl rfl (hts _ q_ini_L) (hts _ q_ml_L_15) hd_L_below ⟨Nat.le_of_ble_eq_true rfl, Nat.le_of_ble_eq_true rfl⟩), hts _ q_st_L_below⟩ (xpS hE hS) rfl rfl hl.1 rfl (lv_room (Nat.le_of_ble_eq_true rfl)) dL_build_211 ⟨(show (57 * i + 9 + 8 * j) + 0 ≤ 384 by omega), (show (422 * i + 56 + 61 * j) + 0 ≤ 2784 by omega)⟩) ?_
                        refine xiast (D := D) hx hb hK hS 0 (hSa) hsA rfl (i := nI ((36 * i) + (6 * j))) (x := nI (belN (xv >>> (nI 1 &&& 31)) (13))) (vp_in_nI (n := (36 * i) + (6 * j)) (by omega) (by omega)) dL_build_214 (fun H10 locs hU hS => ?_)
                        rw [nI_clamp (n := (36 * i) + (6 * j)) (by omega)] at hU
                        have hB := bS_out hB hsF hws.symm hU
                        have hMa := hMa.kept (hU.2.2 _ hms)
                        have hSa := hU.1
                        refine lv_aload hx hb dL_build_215 (lv_at hl 10 rfl) ?_
                        refine lv_iload hx hb dL_build_217 (lv_at hl 1 rfl) ?_
                        refine lv_iconst (v := nI 3) hx hb dL_build_219 (by decide) ?_
                        refine lv_iadd hx hb dL_build_220 ?_
                        refine xtop (show ((nI ((36 * i) + (6 * j))) + (nI 3)) = nI (((36 * i) + (6 * j)) + 3) from nI_add ((36 * i) + (6 * j)) 3) ?_
                        refine lv_iload hx hb dL_build_221 (lv_at hl 0 rfl) ?_
                        refine lv_iconst (v := nI 4) hx hb dL_build_223 (by decide) ?_
                        refine lv_ishr hx hb dL_build_224 ?_
                        refine lv_iconst (v := nI 5) hx hb dL_build_225 (by decide) ?_
                        have hlt226 : belN (xv >>> (nI 4 &&& 31)) (5) < 5 := bel_lt _ (by omega)
                        refine xcRi (va_runS (As := [.int (xv >>> (nI 4 &&& 31)), .int (nI 5)]) (rest := [.int (nI (((36 * i) + (6 * j)) + 3)), .ref (sl)]) ⟨hx, hb, hml, hown, hts⟩ (c_L_below l D cA e0 A H10 (xv >>> (nI 4 &&& 31)) (5) (by omega) (by omega)) ⟨(callB_of 2 hts gi_L_below rfl rfl rfl (hts _ q_ini_L) (hts _ q_ml_L_15) hd_L_below ⟨Nat.le_of_ble_eq_true rfl, Nat.le_of_ble_eq_true rfl⟩), hts _ q_st_L_below⟩ (xpS hE hS) rfl rfl hl.1 rfl (lv_room (Nat.le_of_ble_eq_true rfl)) dL_build_226 ⟨(show (57 * i + 9 + 8 * j) + 0 ≤ 384 by omega), (show (422 * i + 56 + 61 * j) + 0 ≤ 2784 by omega)⟩) ?_
                        refine xiast (D := D) hx hb hK hS 0 (hSa) hsA rfl (i := nI (((36 * i) + (6 * j)) + 3)) (x := nI (belN (xv >>> (nI 4 &&& 31)) (5))) (vp_in_nI (n := ((36 * i) + (6 * j)) + 3) (by omega) (by omega)) dL_build_229 (fun H11 locs hU hS => ?_)
                        rw [nI_clamp (n := ((36 * i) + (6 * j)) + 3) (by omega)] at hU
                        have hB := bS_out hB hsF hws.symm hU
                        have hMa := hMa.kept (hU.2.2 _ hms)
                        have hSa := hU.1
                        refine lv_aload_n hx hb dL_build_230 rfl (lv_at hl 5 rfl) ?_
                        refine lv_iload hx hb dL_build_231 (lv_at hl 3 rfl) ?_
                        refine lv_iload hx hb dL_build_233 (lv_at hl 2 rfl) ?_
                        refine lv_aload hx hb dL_build_235 (lv_at hl 10 rfl) ?_
                        refine lv_iload hx hb dL_build_237 (lv_at hl 1 rfl) ?_
                        refine va_iald hx hb hK (xP1 (hSa)) 0 0 rfl rfl (i := nI ((36 * i) + (6 * j))) (vp_in_nI (n := (36 * i) + (6 * j)) (by omega) (by omega)) dL_build_239 ?_
                        refine xtop (show (upd (upd (upd (fsB) (((36 * i) + (6 * j)) + 2) (nI 100)) ((36 * i) + (6 * j)) (nI (belN (xv >>> (nI 1 &&& 31)) (13)))) (((36 * i) + (6 * j)) + 3) (nI (belN (xv >>> (nI 4 &&& 31)) (5))) (nI ((36 * i) + (6 * j))).toNatClampNeg) = nI (belN (xv >>> (nI 1 &&& 31)) (13)) from by rw [nI_clamp (n := (36 * i) + (6 * j)) (by omega), upd_ne (by omega), upd_eq]) ?_
                        refine lv_aload hx hb dL_build_240 (lv_at hl 10 rfl) ?_
                        refine lv_iload hx hb dL_build_242 (lv_at hl 1 rfl) ?_
                        refine lv_iconst (v := nI 3) hx hb dL_build_244 (by decide) ?_
                        refine lv_iadd hx hb dL_build_245 ?_
                        refine xtop (show ((nI ((36 * i) + (6 * j))) + (nI 3)) = nI (((36 * i) + (6 * j)) + 3) from nI_add ((36 * i) + (6 * j)) 3) ?_
                        refine va_iald hx hb hK (xP1 (hSa)) 0 0 rfl rfl (i := nI (((36 * i) + (6 * j)) + 3)) (vp_in_nI (n := ((36 * i) + (6 * j)) + 3) (by omega) (by omega)) dL_build_246 ?_
                        refine xtop (show (upd (upd (upd (fsB) (((36 * i) + (6 * j)) + 2) (nI 100)) ((36 * i) + (6 * j)) (nI (belN (xv >>> (nI 1 &&& 31)) (13)))) (((36 * i) + (6 * j)) + 3) (nI (belN (xv >>> (nI 4 &&& 31)) (5))) (nI (((36 * i) + (6 * j)) + 3)).toNatClampNeg) = nI (belN (xv >>> (nI 4 &&& 31)) (5)) from by rw [nI_clamp (n := ((36 * i) + (6 * j)) + 3) (by omega), upd_eq]) ?_
                        have hokS : okS (amN' NA 0) (nI (i)) (nI (j)) := ⟨i, j, by omega, by omega, rfl, rfl⟩
                        have hc30 : okR 0 30 (nI (belN (xv >>> (nI 1 &&& 31)) (13))) := ⟨_, Nat.zero_le _, by omega, rfl⟩
                        have hd20 : okR 0 20 (nI (belN (xv >>> (nI 4 &&& 31)) (5))) := ⟨_, Nat.zero_le _, by omega, rfl⟩
                        refine xcXi (vx_runV (As := [.int (nI (i)), .int (nI (j)), .int (nI (belN (xv >>> (nI 1 &&& 31)) (13))), .int (nI (belN (xv >>> (nI 4 &&& 31)) (5)))]) (rest := []) ⟨hx, hb, hml, hown, hts⟩ (c_X4_setSlot l D cA e0 Fc H11 ad2 gB (fun _ => 0) (amN' NA) hB.1 (nI (i)) (nI (j)) (nI (belN (xv >>> (nI 1 &&& 31)) (13))) (nI (belN (xv >>> (nI 4 &&& 31)) (5))) hB.2.1 hl9) ⟨(callB_of 4 hts gi_X4_setSlot rfl rfl rfl (hts _ q_ini_X4) (hts _ q_ml_L_26) hd_X4_setSlot ⟨Nat.le_of_ble_eq_true rfl, Nat.le_of_ble_eq_true rfl⟩), hts _ q_im_X4_setSlot, hts _ q_sel_X4_X4_setSlot⟩ (xpVn hE hS hF hB.1.main rfl) rfl rfl hl.1 rfl (lv_room (Nat.le_of_ble_eq_true rfl)) dL_build_247 ⟨(show (57 * i + 9 + 8 * j) + 4 ≤ 384 by omega), (show (422 * i + 56 + 61 * j) + 24 ≤ 2784 by omega)⟩) hS hF (fun E9 ce9 q9 H9 locs9 hPX9 hz9 hk9 hS9 hc9 hv9 hcl9 => ?_) (fun r_12 H12 locs hP9 hz9 hk9 hS => ?_)
                        · exact (hPX9.elim (fun z => z.2 hokS) (fun z => z.2.2 ⟨hc30, hd20⟩)).elim
                        obtain ⟨-, hr9, hX2⟩ := hP9
                        rw [cl_nI (n := i) (by omega), cl_nI (n := j) (by omega)] at hr9 hX2
                        rw [hr9, (hQ.2.1 (6 * i + j) (Nat.le_refl _)).1]
                        obtain ⟨hB, hQ⟩ := bS_ss hB (by rw [hN1]; exact hQ) (by omega) hc30 hd20 hX2 (hk9 _ hB.2.2.2.2.2.2.2.2.1.lt hwF)
                        have hMa := hMa.kept (hk9 _ hMa.lt hmF)
                        have hSa := hSa.kept (hk9 _ hSa.lt hsF)
                        rw [hN1] at hQ
                        obtain ⟨g3, hg3⟩ : ∃ z, z = ssF gB (6 * i + j) (nI (belN (xv >>> (nI 1 &&& 31)) (13))) (nI (belN (xv >>> (nI 4 &&& 31)) (5))) := ⟨_, rfl⟩
                        rw [← hg3] at hB hQ
                        refine lv_if_eq (tgt := 255) hx hb dL_build_250 (by decide) (fun _ => ?_) (fun hno => absurd (rfl) hno)
                        refine lv_iload hx hb dL_build_255 (lv_at hl 0 rfl) ?_
                        refine lv_iconst (v := nI 3) hx hb dL_build_257 (by decide) ?_
                        refine lv_ishr hx hb dL_build_258 ?_
                        refine lv_iconst (v := nI 3) hx hb dL_build_259 (by decide) ?_
                        have hlt260 : belN (xv >>> (nI 3 &&& 31)) (3) < 3 := bel_lt _ (by omega)
                        refine xcRi (va_runS (As := [.int (xv >>> (nI 3 &&& 31)), .int (nI 3)]) (rest := []) ⟨hx, hb, hml, hown, hts⟩ (c_L_below l D cA e0 A H12 (xv >>> (nI 3 &&& 31)) (3) (by omega) (by omega)) ⟨(callB_of 2 hts gi_L_below rfl rfl rfl (hts _ q_ini_L) (hts _ q_ml_L_15) hd_L_below ⟨Nat.le_of_ble_eq_true rfl, Nat.le_of_ble_eq_true rfl⟩), hts _ q_st_L_below⟩ (xpS hE hS) rfl rfl hl.1 rfl (lv_room (Nat.le_of_ble_eq_true rfl)) dL_build_260 ⟨(show ((57 * i + 9 + 8 * j) + 4) + 0 ≤ 384 by omega), (show ((422 * i + 56 + 61 * j) + 24) + 0 ≤ 2784 by omega)⟩) ?_
                        refine lv_if_le (tgt := 269) hx hb dL_build_263 (by decide) (fun c263 => ?_) (fun c263 => ?_)
                        · refine lv_aload hx hb dL_build_269 (lv_at hl 10 rfl) ?_
                          refine lv_iload hx hb dL_build_271 (lv_at hl 1 rfl) ?_
                          refine lv_iconst (v := nI 2) hx hb dL_build_273 (by decide) ?_
                          refine lv_iadd hx hb dL_build_274 ?_
                          refine xtop (show ((nI ((36 * i) + (6 * j))) + (nI 2)) = nI (((36 * i) + (6 * j)) + 2) from nI_add ((36 * i) + (6 * j)) 2) ?_
                          refine lv_iconst (v := nI 1) hx hb dL_build_275 (by decide) ?_
                          refine lv_iload hx hb dL_build_276 (lv_at hl 0 rfl) ?_
                          refine lv_iconst (v := nI 5) hx hb dL_build_278 (by decide) ?_
                          refine lv_ishr hx hb dL_build_279 ?_
                          refine lv_sipush (v := nI 300) hx hb dL_build_280 (by decide) ?_
                          have hlt283 : belN (xv >>> (nI 5 &&& 31)) (300) < 300 := bel_lt _ (by omega)
                          refine xcRi (va_runS (As := [.int (xv >>> (nI 5 &&& 31)), .int (nI 300)]) (rest := [.int (nI 1), .int (nI (((36 * i) + (6 * j)) + 2)), .ref (sl)]) ⟨hx, hb, hml, hown, hts⟩ (c_L_below l D cA e0 A H12 (xv >>> (nI 5 &&& 31)) (300) (by omega) (by omega)) ⟨(callB_of 2 hts gi_L_below rfl rfl rfl (hts _ q_ini_L) (hts _ q_ml_L_15) hd_L_below ⟨Nat.le_of_ble_eq_true rfl, Nat.le_of_ble_eq_true rfl⟩), hts _ q_st_L_below⟩ (xpS hE hS) rfl rfl hl.1 rfl (lv_room (Nat.le_of_ble_eq_true rfl)) dL_build_283 ⟨(show ((57 * i + 9 + 8 * j) + 4) + 0 ≤ 384 by omega), (show ((422 * i + 56 + 61 * j) + 24) + 0 ≤ 2784 by omega)⟩) ?_
                          refine lv_iadd hx hb dL_build_286 ?_
                          refine xtop (show ((nI 1) + (nI (belN (xv >>> (nI 5 &&& 31)) (300)))) = nI (1 + (belN (xv >>> (nI 5 &&& 31)) (300))) from nI_add 1 (belN (xv >>> (nI 5 &&& 31)) (300))) ?_
                          refine xiast (D := D) hx hb hK hS 0 (hSa) hsA rfl (i := nI (((36 * i) + (6 * j)) + 2)) (x := nI (1 + (belN (xv >>> (nI 5 &&& 31)) (300)))) (vp_in_nI (n := ((36 * i) + (6 * j)) + 2) (by omega) (by omega)) dL_build_287 (fun H13 locs hU hS => ?_)
                          rw [nI_clamp (n := ((36 * i) + (6 * j)) + 2) (by omega)] at hU
                          have hB := bS_out hB hsF hws.symm hU
                          have hMa := hMa.kept (hU.2.2 _ hms)
                          have hSa := hU.1
                          refine lv_aload_n hx hb dL_build_288 rfl (lv_at hl 5 rfl) ?_
                          refine lv_iload hx hb dL_build_289 (lv_at hl 3 rfl) ?_
                          refine lv_iload hx hb dL_build_291 (lv_at hl 2 rfl) ?_
                          refine lv_iconst (v := nI 0) hx hb dL_build_293 (by decide) ?_
                          refine lv_aload hx hb dL_build_294 (lv_at hl 10 rfl) ?_
                          refine lv_iload hx hb dL_build_296 (lv_at hl 1 rfl) ?_
                          refine lv_iconst (v := nI 2) hx hb dL_build_298 (by decide) ?_
                          refine lv_iadd hx hb dL_build_299 ?_
                          refine xtop (show ((nI ((36 * i) + (6 * j))) + (nI 2)) = nI (((36 * i) + (6 * j)) + 2) from nI_add ((36 * i) + (6 * j)) 2) ?_
                          refine va_iald hx hb hK (xP1 (hSa)) 0 0 rfl rfl (i := nI (((36 * i) + (6 * j)) + 2)) (vp_in_nI (n := ((36 * i) + (6 * j)) + 2) (by omega) (by omega)) dL_build_300 ?_
                          refine xtop (show (upd (upd (upd (upd (fsB) (((36 * i) + (6 * j)) + 2) (nI 100)) ((36 * i) + (6 * j)) (nI (belN (xv >>> (nI 1 &&& 31)) (13)))) (((36 * i) + (6 * j)) + 3) (nI (belN (xv >>> (nI 4 &&& 31)) (5)))) (((36 * i) + (6 * j)) + 2) (nI (1 + (belN (xv >>> (nI 5 &&& 31)) (300)))) (nI (((36 * i) + (6 * j)) + 2)).toNatClampNeg) = nI (1 + (belN (xv >>> (nI 5 &&& 31)) (300))) from by rw [nI_clamp (n := ((36 * i) + (6 * j)) + 2) (by omega), upd_eq]) ?_
                          have hday : g3 13 0 = nI 0 := hB.2.2.2.2.2.2.2.1
                          have hy1 : ouI (nI 0) (g3 13 0) (nI 999) = 0 ∧ okR 1 1000 (nI (1 + (belN (xv >>> (nI 5 &&& 31)) (300)))) := ⟨by rw [hday]; decide, _, by omega, by omega, rfl⟩
                          refine xcXi (vx_runV (As := [.int (nI (i)), .int (nI (j)), .int (nI 0), .int (nI (1 + (belN (xv >>> (nI 5 &&& 31)) (300))))]) (rest := []) ⟨hx, hb, hml, hown, hts⟩ (c_X4_planPrice l D cA e0 Fc H13 ad2 g3 (fun _ => 0) (amN' NA) hB.1 (nI (i)) (nI (j)) (nI 0) (nI (1 + (belN (xv >>> (nI 5 &&& 31)) (300)))) hB.2.1 (fun q h => hAn q (Nat.le_trans hS.1 h)) hl9) ⟨(callB_of 4 hts gi_X4_planPrice rfl rfl rfl (hts _ q_ini_X4) (hts _ q_ml_L_30) hd_X4_planPrice ⟨Nat.le_of_ble_eq_true rfl, Nat.le_of_ble_eq_true rfl⟩), hts _ q_im_X4_planPrice, hts _ q_sel_X4_X4_planPrice⟩ (xpVn hE hS hF hB.1.main rfl) rfl rfl hl.1 rfl (lv_room (Nat.le_of_ble_eq_true rfl)) dL_build_301 ⟨(show ((57 * i + 9 + 8 * j) + 4) + 4 ≤ 384 by omega), (show ((422 * i + 56 + 61 * j) + 24) + 37 ≤ 2784 by omega)⟩) hS hF (fun E9 ce9 q9 H9 locs9 hPX9 hz9 hk9 hS9 hc9 hv9 hcl9 => ?_) (fun r_14 H14 locs hP9 hz9 hk9 hS => ?_)
                          · exact (hPX9.elim (fun z => z.2 hokS) (fun z => z.elim (fun z => z.2.2 hy1) (fun z => z.2.2 (Or.inl hday.symm)))).elim
                          obtain ⟨-, -, hq9⟩ := hP9
                          obtain ⟨-, hr9, hX2⟩ := hq9.resolve_right (fun z => z.1 hday.symm)
                          rw [cl_nI (n := i) (by omega), cl_nI (n := j) (by omega)] at hX2
                          rw [hr9, hB.2.2.2.1]
                          obtain ⟨hB, hQ⟩ := bS_pp hB (by rw [hN1]; exact hQ) (show (nI (1 + (belN (xv >>> (nI 5 &&& 31)) (300)))) = nI _ from rfl) (by omega) hX2 (hk9 _ hB.2.2.2.2.2.2.2.2.1.lt hwF)
                          have hMa := hMa.kept (hk9 _ hMa.lt hmF)
                          have hSa := hSa.kept (hk9 _ hSa.lt hsF)
                          rw [hN1] at hQ
                          obtain ⟨g4, hg4⟩ : ∃ z, z = va_up g3 6 (upd (g3 6) (6 * i + j) (nI (1 + (belN (xv >>> (nI 5 &&& 31)) (300))))) := ⟨_, rfl⟩
                          rw [← hg4] at hB hQ
                          refine lv_if_eq (tgt := 309) hx hb dL_build_304 (by decide) (fun _ => ?_) (fun hno => absurd (rfl) hno)
                          refine lv_iinc (v := nI (j + 1)) (lv' := [(9, .int (nI (j + 1))), (11, .int (xv)), (10, .int (nI ((36 * i) + (6 * j)))), (8, .int (nI (i))), (7, .int (nI (n))), (0, .ref (ad2 0 0)), (1, .ref (b)), (2, .int (nI (0))), (4, .ref (w)), (5, .ref (mm)), (6, .ref (sl))]) hx hb dL_build_309 hl (k := 2) rfl (nI_add j 1) (by decide) rfl (fun ls hl => ?_)
                          refine lv_goto (tgt := 135) hx hb dL_build_312 (by decide) ?_
                          refine W.widen (k := 57 * i + 9 + 8 * (j + 1)) (n := 422 * i + 56 + 61 * (j + 1)) (by omega) (by omega) ?_
                          exact ih135 (j + 1) g4 _ H14 locs _ (by omega) hB (bQ_up hQ (by omega)) hMa hSa hS (by omega) (lv_sub hl [0, 3, 4, 5, 6, 7, 8, 9, 10] rfl)
                        · refine lv_goto (tgt := 309) hx hb dL_build_266 (by decide) ?_
                          refine lv_iinc (v := nI (j + 1)) (lv' := [(9, .int (nI (j + 1))), (11, .int (xv)), (10, .int (nI ((36 * i) + (6 * j)))), (8, .int (nI (i))), (7, .int (nI (n))), (0, .ref (ad2 0 0)), (1, .ref (b)), (2, .int (nI (0))), (4, .ref (w)), (5, .ref (mm)), (6, .ref (sl))]) hx hb dL_build_309 hl (k := 2) rfl (nI_add j 1) (by decide) rfl (fun ls hl => ?_)
                          refine lv_goto (tgt := 135) hx hb dL_build_312 (by decide) ?_
                          refine W.widen (k := 57 * i + 9 + 8 * (j + 1)) (n := 422 * i + 56 + 61 * (j + 1)) (by omega) (by omega) ?_
                          exact ih135 (j + 1) g3 _ H12 locs _ (by omega) hB (bQ_up hQ (by omega)) hMa hSa hS (by omega) (lv_sub hl [0, 3, 4, 5, 6, 7, 8, 9, 10] rfl)
                      · refine lv_goto (tgt := 309) hx hb dL_build_198 (by decide) ?_
                        refine lv_iinc (v := nI (j + 1)) (lv' := [(9, .int (nI (j + 1))), (11, .int (xv)), (10, .int (nI ((36 * i) + (6 * j)))), (8, .int (nI (i))), (7, .int (nI (n))), (0, .ref (ad2 0 0)), (1, .ref (b)), (2, .int (nI (0))), (4, .ref (w)), (5, .ref (mm)), (6, .ref (sl))]) hx hb dL_build_309 hl (k := 2) rfl (nI_add j 1) (by decide) rfl (fun ls hl => ?_)
                        refine lv_goto (tgt := 135) hx hb dL_build_312 (by decide) ?_
                        refine W.widen (k := 57 * i + 9 + 8 * (j + 1)) (n := 422 * i + 56 + 61 * (j + 1)) (by omega) (by omega) ?_
                        exact ih135 (j + 1) gB _ H9 locs _ (by omega) hB (bQ_up hQ (by omega)) hMa hSa hS (by omega) (lv_sub hl [0, 3, 4, 5, 6, 7, 8, 9, 10] rfl)
                refine W.widen (k := 57 * i + 9 + 8 * 0) (n := 422 * i + 56 + 61 * 0) (by omega) (by omega) ?_
                exact LOOP135 _ 0 g2 fsA H8 locs _ (by omega) hB hQ hMa hSa hS (Nat.lt_succ_self _) (lv_sub hl [0, 1, 2, 3, 4, 5, 6, 7, 8] rfl)
              refine lv_if_ne (tgt := 111) hx hb dL_build_83 (by decide) (fun c83 => ?_) (fun c83 => ?_)
              · refine lv_ldc (v := nI 100000) hx hb hown (hts _ q_ko_L_19) dL_build_111 ?_
                exact J113 _ (by omega) (by omega)
              · refine lv_bipush (v := nI 100) hx hb dL_build_86 (by decide) ?_
                refine lv_bipush (v := nI 50) hx hb dL_build_88 (by decide) ?_
                refine lv_aload_n hx hb dL_build_90 rfl (lv_at hl 3 rfl) ?_
                refine lv_iload_n hx hb dL_build_91 rfl (lv_at hl 4 rfl) ?_
                refine xcRi (va_runS (As := [.ref (b), .int (nI (0))]) (rest := [.int (nI 50), .int (nI 100), .int (nI (3 * i)), .ref (mm)]) ⟨hx, hb, hml, hown, hts⟩ (c_L_cell l D cA e0 A H b L xs (0) hbA hLm (by omega)) ⟨(callB_of 2 hts gi_L_cell rfl rfl rfl (hts _ q_ini_L) (hts _ q_ml_L_9) hd_L_cell ⟨Nat.le_of_ble_eq_true rfl, Nat.le_of_ble_eq_true rfl⟩), hts _ q_st_L_cell⟩ (xpSs hE hXs hbl hbA hS (fun q h => h)) rfl rfl hl.1 rfl (lv_room (Nat.le_of_ble_eq_true rfl)) dL_build_92 ⟨(show (57 * i) + 0 ≤ 384 by omega), (show (422 * i) + 0 ≤ 2784 by omega)⟩) ?_
                refine lv_bipush (v := nI 6) hx hb dL_build_95 (by decide) ?_
                refine lv_iload hx hb dL_build_97 (lv_at hl 0 rfl) ?_
                refine lv_iadd hx hb dL_build_99 ?_
                refine xtop (show ((nI 6) + (nI (i))) = nI (6 + i) from nI_add 6 i) ?_
                refine lv_ishr hx hb dL_build_100 ?_
                refine lv_bipush (v := nI 10) hx hb dL_build_101 (by decide) ?_
                have hlt103 : belN ((cellF xs L (0)) >>> (nI (6 + i) &&& 31)) (10) < 10 := bel_lt _ (by omega)
                refine xcRi (va_runS (As := [.int ((cellF xs L (0)) >>> (nI (6 + i) &&& 31)), .int (nI 10)]) (rest := [.int (nI 50), .int (nI 100), .int (nI (3 * i)), .ref (mm)]) ⟨hx, hb, hml, hown, hts⟩ (c_L_below l D cA e0 A H ((cellF xs L (0)) >>> (nI (6 + i) &&& 31)) (10) (by omega) (by omega)) ⟨(callB_of 2 hts gi_L_below rfl rfl rfl (hts _ q_ini_L) (hts _ q_ml_L_15) hd_L_below ⟨Nat.le_of_ble_eq_true rfl, Nat.le_of_ble_eq_true rfl⟩), hts _ q_st_L_below⟩ (xpS hE hS) rfl rfl hl.1 rfl (lv_room (Nat.le_of_ble_eq_true rfl)) dL_build_103 ⟨(show (57 * i) + 0 ≤ 384 by omega), (show (422 * i) + 0 ≤ 2784 by omega)⟩) ?_
                refine lv_imul hx hb dL_build_106 ?_
                refine xtop (show ((nI 50) * (nI (belN ((cellF xs L (0)) >>> (nI (6 + i) &&& 31)) (10)))) = nI (50 * (belN ((cellF xs L (0)) >>> (nI (6 + i) &&& 31)) (10))) from pk_mul 50 (belN ((cellF xs L (0)) >>> (nI (6 + i) &&& 31)) (10))) ?_
                refine lv_iadd hx hb dL_build_107 ?_
                refine xtop (show ((nI 100) + (nI (50 * (belN ((cellF xs L (0)) >>> (nI (6 + i) &&& 31)) (10))))) = nI (100 + (50 * (belN ((cellF xs L (0)) >>> (nI (6 + i) &&& 31)) (10)))) from nI_add 100 (50 * (belN ((cellF xs L (0)) >>> (nI (6 + i) &&& 31)) (10)))) ?_
                refine lv_goto (tgt := 113) hx hb dL_build_108 (by decide) ?_
                exact J113 _ (by omega) (by omega)
        refine W.widen (k := 57 * 0) (n := 422 * 0) (by omega) (by omega) ?_
        exact LOOP56 _ 0 ad g00 n00 fm fs H locs _ (Nat.zero_le _) rfl (Or.inl rfl) hB bQ_00 hMa hSa hS (Nat.lt_succ_self _) (lv_sub hl [0, 1, 2, 3, 4, 5, 6, 7] rfl)
      · have c20 : ¬ (81 ≤ k) := fun z => c20 ((nI_leI (a := 81) (b := k) (by omega) (by omega)).mpr z)
        refine lv_aload hx hb dL_build_23 (lv_at hl 5 rfl) ?_
        refine lv_iload hx hb dL_build_25 (lv_at hl 0 rfl) ?_
        refine lv_iload hx hb dL_build_27 (lv_at hl 0 rfl) ?_
        refine lv_bipush (v := nI 9) hx hb dL_build_29 (by decide) ?_
        refine lv_idiv hx hb dL_build_31 (by decide) ?_
        refine xtop (show ((nI (k)) / (nI 9)) = nI (k / 9) from dv9 k (by omega)) ?_
        refine lv_iload hx hb dL_build_32 (lv_at hl 0 rfl) ?_
        refine lv_bipush (v := nI 9) hx hb dL_build_34 (by decide) ?_
        refine lv_irem hx hb dL_build_36 (by decide) ?_
        refine xtop (show ((nI (k)) - (nI (k)) / (nI 9) * (nI 9)) = nI (k % 9) from rm9 k (by omega)) ?_
        refine lv_icmp_ne (tgt := 44) hx hb dL_build_37 (by decide) (fun c37 => ?_) (fun c37 => ?_)
        · have c37 : ¬ ((k / 9) = (k % 9)) := fun z => c37 ((nI_eq (a := k / 9) (b := k % 9) (by omega) (by omega)).mpr z)
          refine lv_bipush (v := nI 20) hx hb dL_build_44 (by decide) ?_
          refine xiast (D := D) hx hb hK hS 0 (hWa) hwA rfl (i := nI (k)) (x := nI 20) (vp_in_nI (n := k) (by omega) (by omega)) dL_build_46 (fun H15 locs hU hS => ?_)
          rw [nI_clamp (n := k) (by omega)] at hU
          have hXl := hXl.out hA hwF hU
          have hMa := hMa.kept (hU.2.2 _ hwm.symm)
          have hSa := hSa.kept (hU.2.2 _ hws.symm)
          have hWa := hU.1
          refine lv_iinc (v := nI (k + 1)) (lv' := [(8, .int (nI (k + 1))), (7, .int (nI (n))), (0, .ref (ad 0 0)), (1, .ref (b)), (2, .int (nI (0))), (4, .ref (w)), (5, .ref (mm)), (6, .ref (sl))]) hx hb dL_build_47 hl (k := 0) rfl (nI_add k 1) (by decide) rfl (fun ls hl => ?_)
          refine lv_goto (tgt := 16) hx hb dL_build_50 (by decide) ?_
          exact ih16 (k + 1) _ H15 locs _ (by omega) hXl hWa hMa hSa (fun p hp => by
            by_cases z : p = k
            · rw [z, upd_eq]
              unfold way0
              rw [if_neg c37]
            · rw [upd_ne z]
              exact hf p (by omega)) hS (by omega) (lv_sub hl [0, 1, 2, 3, 4, 5, 6, 7] rfl)
        · have c37 : (k / 9) = (k % 9) := (nI_eq (a := k / 9) (b := k % 9) (by omega) (by omega)).mp c37
          refine lv_iconst (v := nI 0) hx hb dL_build_40 (by decide) ?_
          refine lv_goto (tgt := 46) hx hb dL_build_41 (by decide) ?_
          refine xiast (D := D) hx hb hK hS 0 (hWa) hwA rfl (i := nI (k)) (x := nI 0) (vp_in_nI (n := k) (by omega) (by omega)) dL_build_46 (fun H16 locs hU hS => ?_)
          rw [nI_clamp (n := k) (by omega)] at hU
          have hXl := hXl.out hA hwF hU
          have hMa := hMa.kept (hU.2.2 _ hwm.symm)
          have hSa := hSa.kept (hU.2.2 _ hws.symm)
          have hWa := hU.1
          refine lv_iinc (v := nI (k + 1)) (lv' := [(8, .int (nI (k + 1))), (7, .int (nI (n))), (0, .ref (ad 0 0)), (1, .ref (b)), (2, .int (nI (0))), (4, .ref (w)), (5, .ref (mm)), (6, .ref (sl))]) hx hb dL_build_47 hl (k := 0) rfl (nI_add k 1) (by decide) rfl (fun ls hl => ?_)
          refine lv_goto (tgt := 16) hx hb dL_build_50 (by decide) ?_
          exact ih16 (k + 1) _ H16 locs _ (by omega) hXl hWa hMa hSa (fun p hp => by
            by_cases z : p = k
            · rw [z, upd_eq]
              unfold way0
              rw [if_pos c37]
            · rw [upd_ne z]
              exact hf p (by omega)) hS (by omega) (lv_sub hl [0, 1, 2, 3, 4, 5, 6, 7] rfl)
  exact LOOP16 _ 0 fw s.heap [] _ (by omega) hX hWa hMa hSa (fun p hp => absurd hp (Nat.not_lt_zero _)) hS (Nat.lt_succ_self _) (lv_sub hl [0, 1, 2, 3, 4, 6, 7, 8] rfl)
