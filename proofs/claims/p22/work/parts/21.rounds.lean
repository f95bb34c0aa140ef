/-! The class: minutes, best, go (by p21.py) -/
theorem go_sub {a b : Nat} (h : b ≤ a) : nI a - nI (a - b) = nI b := by
  rw [pk_sub (Nat.sub_le _ _), show a - (a - b) = b by omega]
theorem okR_k {k : Nat} {v : Int32} : (∃ j, j ≤ k ∧ v = nI j) ↔ okR 0 k v := ⟨fun ⟨j, h1, h2⟩ => ⟨j, Nat.zero_le _, h1, h2⟩, fun ⟨j, _, h1, h2⟩ => ⟨j, h1, h2⟩⟩
theorem gt_nle {a b : Int32} (h : a > b) : ¬ a ≤ b := fun z => by
  have h1 : b < a := h
  rw [i_lt] at h1
  rw [i_le] at z
  omega
theorem ngt_le {a b : Int32} (h : ¬ a > b) : a ≤ b := by
  have h1 : ¬ b < a := h
  rw [i_lt] at h1
  rw [i_le]
  omega
theorem ge_nlt {a b : Int32} (h : a ≥ b) : ¬ a < b := fun z => by
  have h1 : b ≤ a := h
  rw [i_le] at h1
  rw [i_lt] at z
  omega
theorem nge_lt {a b : Int32} (h : ¬ a ≥ b) : a < b := by
  have h1 : ¬ b ≤ a := h
  rw [i_le] at h1
  rw [i_lt]
  omega
set_option maxHeartbeats 4000000 in
set_option maxRecDepth 100000 in
/-- minutes(v) -/
theorem c_X4_minutes (l : Launch) (D : va_G) (cA : Nat → ClassId) (e0 : Nat) (A : Nat → Prop) (H0 : Heap) (ad : Nat → Nat → Nat) (g : Nat → Nat → Int32) (tt : Nat → Int64) (N : Nat → Nat) (hX : xW D cA ad g tt N H0) (v : Int32) (hA : xA A e0 ad N) (hW : hwAll g (N 0)) (hl9 : l.stackTraces = false) : vx_Met l yX4_minutes w_X4_minutes ({ frames := 7, cells := 1, slots := 6, locals := 121 } : Room) (xPc D cA e0 A H0 [.ref (ad 0 0), .int (v)]) (xQi (fun r h => okT (N 0) v ∧ r = rtF g (cl v) ∧ ∃ g2, xW D cA ad g2 tt N h ∧ svOK g g2 (N 0)) A) (xX (fun E => E = xIAE ∧ ¬ okT (N 0) v)) 1 6 (A) := by
  refine vx_ofW (cc := cX4_minutes) (maxL := 2) (ret := (some .int)) (by decide) rfl ?_
  intro p e s m args below meth c s₁ B hml hxt hv
  obtain ⟨rfl, hH, hE⟩ := hv
  subst hH
  have hx := B.exec
  have hb := B.bytes
  have hr := B.returns
  have hts := hE.1.all ([.ref (ad 0 0), .int (v)] : List Value).toArray
  have hown : s.vm.findClass RX4 = some m.cls := findClass_of_methodNamed B.named
  have hlocks := B.notSynchronized
  have hK := hE.2.1
  have hS : va_S A s.heap s.heap [] := va_S.rf
  have hl := lv_entry ([.ref (ad 0 0), .int (v)]) (n := 2) (Nat.le_of_ble_eq_true rfl)
  rw [lg_entry_eq]
  generalize (lg_sl ([.ref (ad 0 0), .int (v)]) ++ List.replicate (2 - (lg_sl ([.ref (ad 0 0), .int (v)])).length) Slot.unset).toArray = ls at hl ⊢
  have hl : lv_has ls 2 [(0, .ref (ad 0 0)), (1, .int (v))] := hl
  refine lv_aload_n hx hb dX4_minutes_0 rfl (lv_at hl 0 rfl) ?_
  refine lv_iload_n hx hb dX4_minutes_1 rfl (lv_at hl 1 rfl) ?_
  refine xcXv (vx_runV (As := [.int (v)]) (rest := []) ⟨hx, hb, hml, hown, hts⟩ (c_X4_requireSet l D cA e0 A s.heap ad g tt N hX v hA hl9) ⟨(callB_of 1 hts gi_X4_requireSet rfl rfl rfl (hts _ q_ini_X4) (hts _ q_ml_X4_155) hd_X4_requireSet ⟨Nat.le_of_ble_eq_true rfl, Nat.le_of_ble_eq_true rfl⟩), hts _ q_im_X4_requireSet, hts _ q_sel_X4_X4_requireSet⟩ (xpV hE hS (hX.main) rfl) rfl rfl hl.1 rfl (lv_room (Nat.le_of_ble_eq_true rfl)) dX4_minutes_2 ⟨Nat.le_of_ble_eq_true rfl, Nat.le_of_ble_eq_true rfl⟩) hS (fun q h => h) (fun E9 ce9 q9 H9 locs9 hPX9 hz9 hk9 hS9 hc9 hv9 hcl9 => ?_) (fun H1 locs hP9 hz9 hk9 hS => ?_)
  · exact vx_out (fun x h => (hxt x h).elim) hlocks hc9 hv9 hcl9 (fun t ht _ => ⟨(), trivial, hPX9, by rw [ht]; exact hz9, fun q hq _ => by rw [ht]; exact hk9 q hq⟩) hS9.2.2 (Nat.le_of_ble_eq_true rfl) (Nat.le_of_ble_eq_true rfl)
  obtain ⟨rfl, S, hS2, rfl⟩ := hP9
  have hSt : S < 256 := Nat.lt_of_lt_of_le hS2 (pow256 hA.n8)
  refine lv_aload_n hx hb dX4_minutes_5 rfl (lv_at hl 0 rfl) ?_
  refine xcv (va_runV (As := []) (rest := []) ⟨hx, hb, hml, hown, hts⟩ (c_X4_survey l D cA e0 A s.heap ad g tt N hX hA) ⟨(callB_of 0 hts gi_X4_survey rfl rfl rfl (hts _ q_ini_X4) (hts _ q_ml_X4_174) hd_X4_survey ⟨Nat.le_of_ble_eq_true rfl, Nat.le_of_ble_eq_true rfl⟩), hts _ q_im_X4_survey, hts _ q_sel_X4_X4_survey⟩ (xpV hE hS (hX.main) rfl) rfl rfl hl.1 rfl (lv_room (Nat.le_of_ble_eq_true rfl)) dX4_minutes_6 ⟨Nat.le_of_ble_eq_true rfl, Nat.le_of_ble_eq_true rfl⟩) hS (fun q h => h) (fun H2 locs hP9 hz9 hk9 hS => ?_)
  obtain ⟨g2, hX2, hv2⟩ := hP9
  refine lv_aload_n hx hb dX4_minutes_9 rfl (lv_at hl 0 rfl) ?_
  refine lv_iload_n hx hb dX4_minutes_10 rfl (lv_at hl 1 rfl) ?_
  refine xcRi (va_runV (As := [.int (nI (S))]) (rest := []) ⟨hx, hb, hml, hown, hts⟩ (c_X4_roundTime l D cA e0 A H2 ad g2 tt N hX2 S hSt (sv_hw hv2 hW S hS2)) ⟨(callB_of 1 hts gi_X4_roundTime rfl rfl rfl (hts _ q_ini_X4) (hts _ q_ml_X4_177) hd_X4_roundTime ⟨Nat.le_of_ble_eq_true rfl, Nat.le_of_ble_eq_true rfl⟩), hts _ q_im_X4_roundTime, hts _ q_sel_X4_X4_roundTime⟩ (xpV hE hS (hX2.main) rfl) rfl rfl hl.1 rfl (lv_room (Nat.le_of_ble_eq_true rfl)) dX4_minutes_11 ⟨Nat.le_of_ble_eq_true rfl, Nat.le_of_ble_eq_true rfl⟩) ?_
  refine xtop (show (tw (wy g2) S 8 + selF S (g2 14) 8) = rtF g S from sv_rt hv2 (by omega)) ?_
  refine vx_ret ?_
  have hpost := (show okT (N 0) (nI S) ∧ rtF g S = rtF g (cl (nI S)) ∧ ∃ g2, xW D cA ad g2 tt N H2 ∧ svOK g g2 (N 0) from ⟨⟨S, hS2, rfl⟩, by rw [cl_nI (n := S) (by omega)], g2, hX2, hv2⟩)
  refine W.widen (k := 1) (n := 6) (by omega) (by omega) ?_
  exact W.iret (v := (rtF g S)) hx hb hr (fun t ht _ => ⟨⟨(rtF g S), H2, rfl, hpost, ht⟩, hS.F ht⟩) hS.2.2 dX4_minutes_14
set_option maxHeartbeats 4000000 in
set_option maxRecDepth 100000 in
/-- best(v, x) -/
theorem c_X4_best (l : Launch) (D : va_G) (cA : Nat → ClassId) (e0 : Nat) (A : Nat → Prop) (H0 : Heap) (ad : Nat → Nat → Nat) (g : Nat → Nat → Int32) (tt : Nat → Int64) (N : Nat → Nat) (hX : xW D cA ad g tt N H0) (v x : Int32) (hA : xA A e0 ad N) (hW : hwAll g (N 0)) (hl9 : l.stackTraces = false) : vx_Met l yX4_best w_X4_best ({ frames := 7, cells := 1, slots := 6, locals := 120 } : Room) (xPc D cA e0 A H0 [.ref (ad 0 0), .int (v), .int (x)]) (xQi (fun r h => (okR 0 5000 v ∧ okR 0 2000 x) ∧ r = nI (bsF g v x (2 ^ N 0 - 1)).1 ∧ ∃ g2, xW D cA ad g2 tt N h ∧ svOK g g2 (N 0)) A) (xX (fun E => E = xIAE ∧ ¬ (okR 0 5000 v ∧ okR 0 2000 x))) 1 6 (A) := by
  refine vx_ofW (cc := cX4_best) (maxL := 11) (ret := (some .int)) (by decide) rfl ?_
  intro p e s m args below meth c s₁ B hml hxt hv
  obtain ⟨rfl, hH, hE⟩ := hv
  subst hH
  have hx := B.exec
  have hb := B.bytes
  have hr := B.returns
  have hts := hE.1.all ([.ref (ad 0 0), .int (v), .int (x)] : List Value).toArray
  have hown : s.vm.findClass RX4 = some m.cls := findClass_of_methodNamed B.named
  have hlocks := B.notSynchronized
  have hK := hE.2.1
  have hS : va_S A s.heap s.heap [] := va_S.rf
  have hl := lv_entry ([.ref (ad 0 0), .int (v), .int (x)]) (n := 11) (Nat.le_of_ble_eq_true rfl)
  rw [lg_entry_eq]
  generalize (lg_sl ([.ref (ad 0 0), .int (v), .int (x)]) ++ List.replicate (11 - (lg_sl ([.ref (ad 0 0), .int (v), .int (x)])).length) Slot.unset).toArray = ls at hl ⊢
  have hl : lv_has ls 11 [(0, .ref (ad 0 0)), (1, .int (v)), (2, .int (x))] := hl
  have hn8 := hA.n8
  have h256 := pow256 hn8
  have hpp := Nat.two_pow_pos (N 0)
  refine lv_iload_n hx hb dX4_best_0 rfl (lv_at hl 1 rfl) ?_
  refine lv_iconst (v := nI 0) hx hb dX4_best_1 (by decide) ?_
  refine lv_sipush (v := nI 5000) hx hb dX4_best_2 (by decide) ?_
  refine xcRi (va_runS (As := [.int (v), .int (nI 0), .int (nI 5000)]) (rest := []) ⟨hx, hb, hml, hown, hts⟩ (c_X4_outside l D cA e0 A s.heap v (nI 0) (nI 5000)) ⟨(callB_of 3 hts gi_X4_outside rfl rfl rfl (hts _ q_ini_X4) (hts _ q_ml_X4_37) hd_X4_outside ⟨Nat.le_of_ble_eq_true rfl, Nat.le_of_ble_eq_true rfl⟩), hts _ q_st_X4_outside⟩ (xpS hE hS) rfl rfl hl.1 rfl (lv_room (Nat.le_of_ble_eq_true rfl)) dX4_best_5 ⟨Nat.le_of_ble_eq_true rfl, Nat.le_of_ble_eq_true rfl⟩) ?_
  refine lv_if_eq (tgt := 21) hx hb dX4_best_8 (by decide) (fun c8 => ?_) (fun c8 => ?_)
  · refine lv_iload_n hx hb dX4_best_21 rfl (lv_at hl 2 rfl) ?_
    refine xcXv (vx_runS (As := [.int (x)]) (rest := []) ⟨hx, hb, hml, hown, hts⟩ (c_X4_requireLoad l D cA e0 A s.heap x hl9) ⟨(callB_of 1 hts gi_X4_requireLoad rfl rfl rfl (hts _ q_ini_X4) (hts _ q_ml_X4_182) hd_X4_requireLoad ⟨Nat.le_of_ble_eq_true rfl, Nat.le_of_ble_eq_true rfl⟩), hts _ q_st_X4_requireLoad⟩ (xpS hE hS) rfl rfl hl.1 rfl (lv_room (Nat.le_of_ble_eq_true rfl)) dX4_best_22 ⟨Nat.le_of_ble_eq_true rfl, Nat.le_of_ble_eq_true rfl⟩) hS (fun q h => h) (fun E9 ce9 q9 H9 locs9 hPX9 hz9 hk9 hS9 hc9 hv9 hcl9 => ?_) (fun H1 locs hP9 hz9 hk9 hS => ?_)
    · exact vx_out (fun x h => (hxt x h).elim) hlocks hc9 hv9 hcl9 (fun t ht _ => ⟨(), trivial, ⟨hPX9.1, fun z => hPX9.2 (okR_k.mpr z.2)⟩, by rw [ht]; exact hz9, fun q hq _ => by rw [ht]; exact hk9 q hq⟩) hS9.2.2 (Nat.le_of_ble_eq_true rfl) (Nat.le_of_ble_eq_true rfl)
    obtain ⟨rfl, hx0⟩ := hP9
    refine lv_aload_n hx hb dX4_best_25 rfl (lv_at hl 0 rfl) ?_
    refine xcv (va_runV (As := []) (rest := []) ⟨hx, hb, hml, hown, hts⟩ (c_X4_survey l D cA e0 A s.heap ad g tt N hX hA) ⟨(callB_of 0 hts gi_X4_survey rfl rfl rfl (hts _ q_ini_X4) (hts _ q_ml_X4_174) hd_X4_survey ⟨Nat.le_of_ble_eq_true rfl, Nat.le_of_ble_eq_true rfl⟩), hts _ q_im_X4_survey, hts _ q_sel_X4_X4_survey⟩ (xpV hE hS (hX.main) rfl) rfl rfl hl.1 rfl (lv_room (Nat.le_of_ble_eq_true rfl)) dX4_best_26 ⟨Nat.le_of_ble_eq_true rfl, Nat.le_of_ble_eq_true rfl⟩) hS (fun q h => h) (fun H2 locs hP9 hz9 hk9 hS => ?_)
    obtain ⟨g2, hX2, hv2⟩ := hP9
    refine lv_iconst (v := nI 0) hx hb dX4_best_29 (by decide) ?_
    refine lv_istore_n (lv' := [(3, .int (nI 0)), (0, .ref (ad 0 0)), (1, .int (v)), (2, .int (x))]) hx hb dX4_best_30 rfl hl (by decide) rfl (fun ls hl => ?_)
    refine lv_iconst (v := nI 0) hx hb dX4_best_31 (by decide) ?_
    refine lv_istore (lv' := [(4, .int (nI 0)), (3, .int (nI 0)), (0, .ref (ad 0 0)), (1, .int (v)), (2, .int (x))]) hx hb dX4_best_32 hl (by decide) rfl (fun ls hl => ?_)
    refine lv_iconst (v := nI 0) hx hb dX4_best_34 (by decide) ?_
    refine lv_istore (lv' := [(5, .int (nI 0)), (4, .int (nI 0)), (3, .int (nI 0)), (0, .ref (ad 0 0)), (1, .int (v)), (2, .int (x))]) hx hb dX4_best_35 hl (by decide) rfl (fun ls hl => ?_)
    refine lv_iconst (v := nI 1) hx hb dX4_best_37 (by decide) ?_
    refine lv_aload_n hx hb dX4_best_38 rfl (lv_at hl 3 rfl) ?_
    refine va_get (D := D) (ci := 5) (v := .ref (ad 0 1)) (C := RX4) (T := TX4) (N := 11) hx hb hts qi_X4 hown hK (xP1 (hX2.main)) 0 rfl rfl 0 (by decide) (hts _ q_fl_X4_10) (fun _ h9 => h9) rfl dX4_best_39 ?_
    refine xcRi (va_runV (As := []) (rest := [.int (nI 1)]) ⟨hx, hb, hml, hown, hts⟩ (c_Jx4a65c_size_8abf5 l D cA e0 A H2 (ad 0 1) (g2 18 0) (ad 0 9) (nI (N 0)) (hX2.ml)) ⟨(callB_of 0 hts gi_Jx4a65c_size_8abf5 rfl rfl rfl (hts _ q_ini_Jx4a65c) (hts _ q_ml_X4_48) hd_Jx4a65c_size_8abf5 ⟨Nat.le_of_ble_eq_true rfl, Nat.le_of_ble_eq_true rfl⟩), hts _ q_im_Jx4a65c_size_8abf5, hts _ q_sel_Jx4a65c_Jx4a65c_size_8abf5⟩ (xpV hE hS (hX2.ml) rfl) rfl rfl hl.1 rfl (lv_room (Nat.le_of_ble_eq_true rfl)) dX4_best_42 ⟨Nat.le_of_ble_eq_true rfl, Nat.le_of_ble_eq_true rfl⟩) ?_
    refine lv_ishl hx hb dX4_best_45 ?_
    refine xtop (show ((nI 1) <<< (nI (N 0) &&& 31)) = nI (2 ^ N 0) from p_pw (N 0) (by omega)) ?_
    refine lv_istore (lv' := [(6, .int (nI (2 ^ N 0))), (5, .int (nI 0)), (4, .int (nI 0)), (3, .int (nI 0)), (0, .ref (ad 0 0)), (1, .int (v)), (2, .int (x))]) hx hb dX4_best_46 hl (by decide) rfl (fun ls hl => ?_)
    refine lv_iconst (v := nI 1) hx hb dX4_best_48 (by decide) ?_
    refine lv_istore (lv' := [(7, .int (nI 1)), (6, .int (nI (2 ^ N 0))), (5, .int (nI 0)), (4, .int (nI 0)), (3, .int (nI 0)), (0, .ref (ad 0 0)), (1, .int (v)), (2, .int (x))]) hx hb dX4_best_49 hl (by decide) rfl (fun ls hl => ?_)
    have LOOP51 : ∀ (n51 : Nat) (k : Nat) (b : Nat) (bg : Int32) (bt : Int32) (ls : Array Slot), (k + 1 ≤ 2 ^ N 0) → (bsF g v x k = (b, bg, bt)) → (2 ^ N 0 - k) < n51 → lv_has ls 11 [(7, .int (nI (k + 1))), (5, .int (bt)), (4, .int (bg)), (3, .int (nI (b))), (6, .int (nI (2 ^ N 0))), (0, .ref (ad 0 0)), (1, .int (v)), (2, .int (x))] → W p l e (headSpec w_X4_best ({ frames := 7, cells := 1, slots := 6, locals := 120 } : Room)).room s m ([.ref (ad 0 0), .int (v), .int (x)] : List Value).toArray below meth c H2 locs ((0 + 1) + 0) ((0 + 6) + 0) (vx_MQ below (xQi (fun r h => (okR 0 5000 v ∧ okR 0 2000 x) ∧ r = nI (bsF g v x (2 ^ N 0 - 1)).1 ∧ ∃ g2, xW D cA ad g2 tt N h ∧ svOK g g2 (N 0)) A) (xX (fun E => E = xIAE ∧ ¬ (okR 0 5000 v ∧ okR 0 2000 x))) ([.ref (ad 0 0), .int (v), .int (x)] : List Value).toArray s 1 6 (A)) (F0 m 51 ls []) := by
      intro n51
      induction n51 with
      | zero => intro k b bg bt ls hk hbs hmeas hl; exact absurd hmeas (Nat.not_lt_zero _)
      | succ n51 ih51 =>
        intro k b bg bt ls hk hbs hmeas hl
        refine lv_iload hx hb dX4_best_51 (lv_at hl 0 rfl) ?_
        refine lv_iload hx hb dX4_best_53 (lv_at hl 4 rfl) ?_
        refine lv_icmp_ge (tgt := 146) hx hb dX4_best_55 (by decide) (fun c55 => ?_) (fun c55 => ?_)
        · have c55 : (2 ^ N 0) ≤ (k + 1) := (nI_leI (a := 2 ^ N 0) (b := k + 1) (by omega) (by omega)).mp c55
          have hS8 : 2 ^ N 0 - 1 = k := by omega
          refine lv_iload_n hx hb dX4_best_146 rfl (lv_at hl 3 rfl) ?_
          refine vx_ret ?_
          have hpost := (show (okR 0 5000 v ∧ okR 0 2000 x) ∧ nI b = nI (bsF g v x (2 ^ N 0 - 1)).1 ∧ ∃ g2, xW D cA ad g2 tt N H2 ∧ svOK g g2 (N 0) from ⟨⟨(ou_r (a := 0) (b := 5000) (by omega) (by omega)).mp c8, okR_k.mp hx0⟩, by rw [hS8, hbs], g2, hX2, hv2⟩)
          refine W.widen (k := 1) (n := 6) (by omega) (by omega) ?_
          exact W.iret (v := (nI (b))) hx hb hr (fun t ht _ => ⟨⟨(nI (b)), H2, rfl, hpost, ht⟩, hS.F ht⟩) hS.2.2 dX4_best_147
        · have c55 : ¬ ((2 ^ N 0) ≤ (k + 1)) := fun z => c55 ((nI_leI (a := 2 ^ N 0) (b := k + 1) (by omega) (by omega)).mpr z)
          have hS7 : k + 1 < 2 ^ N 0 := by omega
          have hS6 : k + 1 < 256 := by omega
          refine lv_aload_n hx hb dX4_best_58 rfl (lv_at hl 5 rfl) ?_
          refine lv_iload hx hb dX4_best_59 (lv_at hl 0 rfl) ?_
          refine xcRi (va_runV (As := [.int (nI (k + 1))]) (rest := []) ⟨hx, hb, hml, hown, hts⟩ (c_X4_roundTime l D cA e0 A H2 ad g2 tt N hX2 (k + 1) hS6 (sv_hw hv2 hW (k + 1) hS7)) ⟨(callB_of 1 hts gi_X4_roundTime rfl rfl rfl (hts _ q_ini_X4) (hts _ q_ml_X4_177) hd_X4_roundTime ⟨Nat.le_of_ble_eq_true rfl, Nat.le_of_ble_eq_true rfl⟩), hts _ q_im_X4_roundTime, hts _ q_sel_X4_X4_roundTime⟩ (xpV hE hS (hX2.main) rfl) rfl rfl hl.1 rfl (lv_room (Nat.le_of_ble_eq_true rfl)) dX4_best_61 ⟨Nat.le_of_ble_eq_true rfl, Nat.le_of_ble_eq_true rfl⟩) ?_
          refine xtop (show (tw (wy g2) (k + 1) 8 + selF (k + 1) (g2 14) 8) = rtF g (k + 1) from sv_rt hv2 (by omega)) ?_
          refine lv_istore (lv' := [(8, .int (rtF g (k + 1))), (7, .int (nI (k + 1))), (5, .int (bt)), (4, .int (bg)), (3, .int (nI (b))), (6, .int (nI (2 ^ N 0))), (0, .ref (ad 0 0)), (1, .int (v)), (2, .int (x))]) hx hb dX4_best_64 hl (by decide) rfl (fun ls hl => ?_)
          refine lv_iload hx hb dX4_best_66 (lv_at hl 1 rfl) ?_
          refine lv_aload_n hx hb dX4_best_68 rfl (lv_at hl 6 rfl) ?_
          refine va_get (D := D) (ci := 5) (v := .ref (ad 0 6)) (C := RX4) (T := TX4) (N := 11) hx hb hts qi_X4 hown hK (xP1 (hX2.main)) 0 rfl rfl 5 (by decide) (hts _ q_fl_X4_33) (fun _ h9 => h9) rfl dX4_best_69 ?_
          refine xcRi (va_runS (As := [.int (nI (k + 1)), .ref (ad 0 6)]) (rest := []) ⟨hx, hb, hml, hown, hts⟩ (c_X4_sumOver l D cA e0 A H2 (k + 1) (ad 0 6) (g2 16) hS6 (hX2.gn)) ⟨(callB_of 2 hts gi_X4_sumOver rfl rfl rfl (hts _ q_ini_X4) (hts _ q_ml_X4_185) hd_X4_sumOver ⟨Nat.le_of_ble_eq_true rfl, Nat.le_of_ble_eq_true rfl⟩), hts _ q_st_X4_sumOver⟩ (xpS hE hS) rfl rfl hl.1 rfl (lv_room (Nat.le_of_ble_eq_true rfl)) dX4_best_72 ⟨Nat.le_of_ble_eq_true rfl, Nat.le_of_ble_eq_true rfl⟩) ?_
          refine xtop (show (selF (k + 1) (g2 16) 8) = gnF g (k + 1) from sv_gn hv2 (by omega)) ?_
          refine lv_istore (lv' := [(9, .int (gnF g (k + 1))), (8, .int (rtF g (k + 1))), (7, .int (nI (k + 1))), (5, .int (bt)), (4, .int (bg)), (3, .int (nI (b))), (6, .int (nI (2 ^ N 0))), (0, .ref (ad 0 0)), (1, .int (v)), (2, .int (x))]) hx hb dX4_best_75 hl (by decide) rfl (fun ls hl => ?_)
          refine lv_iload hx hb dX4_best_77 (lv_at hl 1 rfl) ?_
          refine lv_iload_n hx hb dX4_best_79 rfl (lv_at hl 8 rfl) ?_
          refine lv_icmp_gt (tgt := 100) hx hb dX4_best_80 (by decide) (fun c80 => ?_) (fun c80 => ?_)
          · refine lv_iconst (v := nI 0) hx hb dX4_best_100 (by decide) ?_
            refine lv_istore (lv' := [(10, .int (nI 0)), (9, .int (gnF g (k + 1))), (8, .int (rtF g (k + 1))), (7, .int (nI (k + 1))), (5, .int (bt)), (4, .int (bg)), (3, .int (nI (b))), (6, .int (nI (2 ^ N 0))), (0, .ref (ad 0 0)), (1, .int (v)), (2, .int (x))]) hx hb dX4_best_101 hl (by decide) rfl (fun ls hl => ?_)
            refine lv_iload hx hb dX4_best_103 (lv_at hl 0 rfl) ?_
            refine lv_if_eq (tgt := 140) hx hb dX4_best_105 (by decide) (fun _ => ?_) (fun hno => absurd (rfl) hno)
            refine lv_iinc (v := nI (k + 1 + 1)) (lv' := [(7, .int (nI (k + 1 + 1))), (10, .int (nI 0)), (9, .int (gnF g (k + 1))), (8, .int (rtF g (k + 1))), (5, .int (bt)), (4, .int (bg)), (3, .int (nI (b))), (6, .int (nI (2 ^ N 0))), (0, .ref (ad 0 0)), (1, .int (v)), (2, .int (x))]) hx hb dX4_best_140 hl (k := 3) rfl (nI_add (k + 1) 1) (by decide) rfl (fun ls hl => ?_)
            refine lv_goto (tgt := 51) hx hb dX4_best_143 (by decide) ?_
            exact ih51 (k + 1) b bg bt _ (by omega) (by rw [bs_no (fun z => by rw [hbs] at z; exact gt_nle c80 z.1.1), hbs]) (by omega) (lv_sub hl [0, 4, 5, 6, 7, 8, 9, 10] rfl)
          · refine lv_iload hx hb dX4_best_83 (lv_at hl 2 rfl) ?_
            refine lv_aload_n hx hb dX4_best_85 rfl (lv_at hl 7 rfl) ?_
            refine va_get (D := D) (ci := 5) (v := .ref (ad 0 5)) (C := RX4) (T := TX4) (N := 11) hx hb hts qi_X4 hown hK (xP1 (hX2.main)) 0 rfl rfl 4 (by decide) (hts _ q_fl_X4_30) (fun _ h9 => h9) rfl dX4_best_86 ?_
            refine xcRi (va_runS (As := [.int (nI (k + 1)), .ref (ad 0 5)]) (rest := []) ⟨hx, hb, hml, hown, hts⟩ (c_X4_sumOver l D cA e0 A H2 (k + 1) (ad 0 5) (g2 15) hS6 (hX2.lk)) ⟨(callB_of 2 hts gi_X4_sumOver rfl rfl rfl (hts _ q_ini_X4) (hts _ q_ml_X4_185) hd_X4_sumOver ⟨Nat.le_of_ble_eq_true rfl, Nat.le_of_ble_eq_true rfl⟩), hts _ q_st_X4_sumOver⟩ (xpS hE hS) rfl rfl hl.1 rfl (lv_room (Nat.le_of_ble_eq_true rfl)) dX4_best_89 ⟨Nat.le_of_ble_eq_true rfl, Nat.le_of_ble_eq_true rfl⟩) ?_
            refine xtop (show (selF (k + 1) (g2 15) 8) = lkF g (k + 1) from sv_lk hv2 (by omega)) ?_
            refine lv_iload_n hx hb dX4_best_92 rfl (lv_at hl 9 rfl) ?_
            refine lv_icmp_gt (tgt := 100) hx hb dX4_best_93 (by decide) (fun c93 => ?_) (fun c93 => ?_)
            · refine lv_iconst (v := nI 0) hx hb dX4_best_100 (by decide) ?_
              refine lv_istore (lv' := [(10, .int (nI 0)), (9, .int (gnF g (k + 1))), (8, .int (rtF g (k + 1))), (7, .int (nI (k + 1))), (5, .int (bt)), (4, .int (bg)), (3, .int (nI (b))), (6, .int (nI (2 ^ N 0))), (0, .ref (ad 0 0)), (1, .int (v)), (2, .int (x))]) hx hb dX4_best_101 hl (by decide) rfl (fun ls hl => ?_)
              refine lv_iload hx hb dX4_best_103 (lv_at hl 0 rfl) ?_
              refine lv_if_eq (tgt := 140) hx hb dX4_best_105 (by decide) (fun _ => ?_) (fun hno => absurd (rfl) hno)
              refine lv_iinc (v := nI (k + 1 + 1)) (lv' := [(7, .int (nI (k + 1 + 1))), (10, .int (nI 0)), (9, .int (gnF g (k + 1))), (8, .int (rtF g (k + 1))), (5, .int (bt)), (4, .int (bg)), (3, .int (nI (b))), (6, .int (nI (2 ^ N 0))), (0, .ref (ad 0 0)), (1, .int (v)), (2, .int (x))]) hx hb dX4_best_140 hl (k := 3) rfl (nI_add (k + 1) 1) (by decide) rfl (fun ls hl => ?_)
              refine lv_goto (tgt := 51) hx hb dX4_best_143 (by decide) ?_
              exact ih51 (k + 1) b bg bt _ (by omega) (by rw [bs_no (fun z => by rw [hbs] at z; exact gt_nle c93 z.1.2), hbs]) (by omega) (lv_sub hl [0, 4, 5, 6, 7, 8, 9, 10] rfl)
            · refine lv_iconst (v := nI 1) hx hb dX4_best_96 (by decide) ?_
              refine lv_goto (tgt := 101) hx hb dX4_best_97 (by decide) ?_
              refine lv_istore (lv' := [(10, .int (nI 1)), (9, .int (gnF g (k + 1))), (8, .int (rtF g (k + 1))), (7, .int (nI (k + 1))), (5, .int (bt)), (4, .int (bg)), (3, .int (nI (b))), (6, .int (nI (2 ^ N 0))), (0, .ref (ad 0 0)), (1, .int (v)), (2, .int (x))]) hx hb dX4_best_101 hl (by decide) rfl (fun ls hl => ?_)
              refine lv_iload hx hb dX4_best_103 (lv_at hl 0 rfl) ?_
              refine lv_if_eq (tgt := 140) hx hb dX4_best_105 (by decide) (fun hno => absurd hno ((by decide))) (fun _ => ?_)
              refine lv_iload hx hb dX4_best_108 (lv_at hl 1 rfl) ?_
              refine lv_iload hx hb dX4_best_110 (lv_at hl 5 rfl) ?_
              refine lv_icmp_gt (tgt := 129) hx hb dX4_best_112 (by decide) (fun c112 => ?_) (fun c112 => ?_)
              · refine lv_iload hx hb dX4_best_129 (lv_at hl 3 rfl) ?_
                refine lv_istore_n (lv' := [(3, .int (nI (k + 1))), (10, .int (nI 1)), (9, .int (gnF g (k + 1))), (8, .int (rtF g (k + 1))), (7, .int (nI (k + 1))), (5, .int (bt)), (4, .int (bg)), (6, .int (nI (2 ^ N 0))), (0, .ref (ad 0 0)), (1, .int (v)), (2, .int (x))]) hx hb dX4_best_131 rfl hl (by decide) rfl (fun ls hl => ?_)
                refine lv_iload hx hb dX4_best_132 (lv_at hl 2 rfl) ?_
                refine lv_istore (lv' := [(4, .int (gnF g (k + 1))), (3, .int (nI (k + 1))), (10, .int (nI 1)), (9, .int (gnF g (k + 1))), (8, .int (rtF g (k + 1))), (7, .int (nI (k + 1))), (5, .int (bt)), (6, .int (nI (2 ^ N 0))), (0, .ref (ad 0 0)), (1, .int (v)), (2, .int (x))]) hx hb dX4_best_134 hl (by decide) rfl (fun ls hl => ?_)
                refine lv_iload hx hb dX4_best_136 (lv_at hl 4 rfl) ?_
                refine lv_istore (lv' := [(5, .int (rtF g (k + 1))), (4, .int (gnF g (k + 1))), (3, .int (nI (k + 1))), (10, .int (nI 1)), (9, .int (gnF g (k + 1))), (8, .int (rtF g (k + 1))), (7, .int (nI (k + 1))), (6, .int (nI (2 ^ N 0))), (0, .ref (ad 0 0)), (1, .int (v)), (2, .int (x))]) hx hb dX4_best_138 hl (by decide) rfl (fun ls hl => ?_)
                refine lv_iinc (v := nI (k + 1 + 1)) (lv' := [(7, .int (nI (k + 1 + 1))), (5, .int (rtF g (k + 1))), (4, .int (gnF g (k + 1))), (3, .int (nI (k + 1))), (10, .int (nI 1)), (9, .int (gnF g (k + 1))), (8, .int (rtF g (k + 1))), (6, .int (nI (2 ^ N 0))), (0, .ref (ad 0 0)), (1, .int (v)), (2, .int (x))]) hx hb dX4_best_140 hl (k := 6) rfl (nI_add (k + 1) 1) (by decide) rfl (fun ls hl => ?_)
                refine lv_goto (tgt := 51) hx hb dX4_best_143 (by decide) ?_
                exact ih51 (k + 1) (k + 1) (gnF g (k + 1)) (rtF g (k + 1)) _ (by omega) (bs_yes ⟨⟨ngt_le c80, ngt_le c93⟩, by rw [hbs]; exact Or.inl c112⟩) (by omega) (lv_sub hl [0, 1, 2, 3, 7, 8, 9, 10] rfl)
              · refine lv_iload hx hb dX4_best_115 (lv_at hl 1 rfl) ?_
                refine lv_iload hx hb dX4_best_117 (lv_at hl 5 rfl) ?_
                refine lv_icmp_ne (tgt := 140) hx hb dX4_best_119 (by decide) (fun c119 => ?_) (fun c119 => ?_)
                · refine lv_iinc (v := nI (k + 1 + 1)) (lv' := [(7, .int (nI (k + 1 + 1))), (10, .int (nI 1)), (9, .int (gnF g (k + 1))), (8, .int (rtF g (k + 1))), (5, .int (bt)), (4, .int (bg)), (3, .int (nI (b))), (6, .int (nI (2 ^ N 0))), (0, .ref (ad 0 0)), (1, .int (v)), (2, .int (x))]) hx hb dX4_best_140 hl (k := 3) rfl (nI_add (k + 1) 1) (by decide) rfl (fun ls hl => ?_)
                  refine lv_goto (tgt := 51) hx hb dX4_best_143 (by decide) ?_
                  exact ih51 (k + 1) b bg bt _ (by omega) (by rw [bs_no (fun z => by rw [hbs] at z; exact z.2.elim (fun q => c112 q) (fun q => c119 q.1)), hbs]) (by omega) (lv_sub hl [0, 4, 5, 6, 7, 8, 9, 10] rfl)
                · refine lv_iload hx hb dX4_best_122 (lv_at hl 2 rfl) ?_
                  refine lv_iload hx hb dX4_best_124 (lv_at hl 4 rfl) ?_
                  refine lv_icmp_ge (tgt := 140) hx hb dX4_best_126 (by decide) (fun c126 => ?_) (fun c126 => ?_)
                  · refine lv_iinc (v := nI (k + 1 + 1)) (lv' := [(7, .int (nI (k + 1 + 1))), (10, .int (nI 1)), (9, .int (gnF g (k + 1))), (8, .int (rtF g (k + 1))), (5, .int (bt)), (4, .int (bg)), (3, .int (nI (b))), (6, .int (nI (2 ^ N 0))), (0, .ref (ad 0 0)), (1, .int (v)), (2, .int (x))]) hx hb dX4_best_140 hl (k := 3) rfl (nI_add (k + 1) 1) (by decide) rfl (fun ls hl => ?_)
                    refine lv_goto (tgt := 51) hx hb dX4_best_143 (by decide) ?_
                    exact ih51 (k + 1) b bg bt _ (by omega) (by rw [bs_no (fun z => by rw [hbs] at z; exact z.2.elim (fun q => c112 q) (fun q => ge_nlt c126 q.2)), hbs]) (by omega) (lv_sub hl [0, 4, 5, 6, 7, 8, 9, 10] rfl)
                  · refine lv_iload hx hb dX4_best_129 (lv_at hl 3 rfl) ?_
                    refine lv_istore_n (lv' := [(3, .int (nI (k + 1))), (10, .int (nI 1)), (9, .int (gnF g (k + 1))), (8, .int (rtF g (k + 1))), (7, .int (nI (k + 1))), (5, .int (bt)), (4, .int (bg)), (6, .int (nI (2 ^ N 0))), (0, .ref (ad 0 0)), (1, .int (v)), (2, .int (x))]) hx hb dX4_best_131 rfl hl (by decide) rfl (fun ls hl => ?_)
                    refine lv_iload hx hb dX4_best_132 (lv_at hl 2 rfl) ?_
                    refine lv_istore (lv' := [(4, .int (gnF g (k + 1))), (3, .int (nI (k + 1))), (10, .int (nI 1)), (9, .int (gnF g (k + 1))), (8, .int (rtF g (k + 1))), (7, .int (nI (k + 1))), (5, .int (bt)), (6, .int (nI (2 ^ N 0))), (0, .ref (ad 0 0)), (1, .int (v)), (2, .int (x))]) hx hb dX4_best_134 hl (by decide) rfl (fun ls hl => ?_)
                    refine lv_iload hx hb dX4_best_136 (lv_at hl 4 rfl) ?_
                    refine lv_istore (lv' := [(5, .int (rtF g (k + 1))), (4, .int (gnF g (k + 1))), (3, .int (nI (k + 1))), (10, .int (nI 1)), (9, .int (gnF g (k + 1))), (8, .int (rtF g (k + 1))), (7, .int (nI (k + 1))), (6, .int (nI (2 ^ N 0))), (0, .ref (ad 0 0)), (1, .int (v)), (2, .int (x))]) hx hb dX4_best_138 hl (by decide) rfl (fun ls hl => ?_)
                    refine lv_iinc (v := nI (k + 1 + 1)) (lv' := [(7, .int (nI (k + 1 + 1))), (5, .int (rtF g (k + 1))), (4, .int (gnF g (k + 1))), (3, .int (nI (k + 1))), (10, .int (nI 1)), (9, .int (gnF g (k + 1))), (8, .int (rtF g (k + 1))), (6, .int (nI (2 ^ N 0))), (0, .ref (ad 0 0)), (1, .int (v)), (2, .int (x))]) hx hb dX4_best_140 hl (k := 6) rfl (nI_add (k + 1) 1) (by decide) rfl (fun ls hl => ?_)
                    refine lv_goto (tgt := 51) hx hb dX4_best_143 (by decide) ?_
                    exact ih51 (k + 1) (k + 1) (gnF g (k + 1)) (rtF g (k + 1)) _ (by omega) (bs_yes ⟨⟨ngt_le c80, ngt_le c93⟩, by rw [hbs]; exact Or.inr ⟨c119, nge_lt c126⟩⟩) (by omega) (lv_sub hl [0, 1, 2, 3, 7, 8, 9, 10] rfl)
    exact LOOP51 _ 0 0 (nI 0) (nI 0) _ (by omega) rfl (Nat.lt_succ_self _) (lv_sub hl [0, 2, 3, 4, 1, 5, 6, 7] rfl)
  · exact xthrow (cls := xIAE) (text := "limit is not 0 to 5000") hx hb hl9 hE hS hown (by decide +kernel) q_cl_X4_41 q_ini_java_lang_IllegalArgumentException xth_IAE xgd_IAE (by decide) (hl.1.trans hml.symm) dX4_best_11 dX4_best_14 dX4_best_15 dX4_best_17 dX4_best_20 hxt (Nat.le_of_ble_eq_true rfl) (Nat.le_of_ble_eq_true rfl) (Nat.le_of_ble_eq_true rfl) (Nat.le_of_ble_eq_true rfl) hlocks (⟨rfl, fun z => c8 ((ou_r (a := 0) (b := 5000) (by omega) (by omega)).mpr z.1)⟩) (Nat.le_of_ble_eq_true rfl) (Nat.le_of_ble_eq_true rfl)
/-- the next machine after k machines of a round, as the class tells it; -1 behind the last -/
def nsN (w : Nat → Nat → Int32) (S k : Nat) : Int32 := amN (fun m => w (vs w S k).2 m + tw w ((vs w S k).1 - 2 ^ m) m) (vs w S k).1 8
theorem am_z (f : Nat → Int32) : ∀ k, am f 0 k = none
  | 0 => rfl
  | k + 1 => by
    rw [am, if_neg (by rw [Nat.zero_testBit]; decide)]
    exact am_z f k
theorem nsN_yes (w : Nat → Nat → Int32) {S n k : Nat} (hn : n ≤ 8) (hS : S < 2 ^ n) (hk : k < bc S) : nsN w S k = nI (vs w S (k + 1)).2 := by
  obtain ⟨v1, v2, v3, v4⟩ := vs_next w (k := k) hn hS hk
  have hp := pow256 hn
  exact amN_nx w _ (by omega) v2
theorem nsN_no (w : Nat → Nat → Int32) {S n : Nat} (hn : n ≤ 8) (hS : S < 2 ^ n) : nsN w S (bc S) = -1 := by
  obtain ⟨h1, h2⟩ := vs_ok w hn hS (bc S) (Nat.le_refl _)
  have hp := pow256 hn
  have h0 : (vs w S (bc S)).1 = 0 := p_bc0 _ (by omega) (by omega)
  unfold nsN
  rw [h0]
  exact (amN_none (Nat.le_refl 8)).mpr (am_z _ 8)
theorem nsN_m (w : Nat → Nat → Int32) {S n k : Nat} (hn : n ≤ 8) (hS : S < 2 ^ n) (hk : k ≤ bc S) : ouI (nsN w S k) (nI 0) (nI n - nI 1) = 0 ↔ k < bc S := by
  refine ⟨fun z => ?_, fun z => ?_⟩
  · rcases Nat.lt_or_ge k (bc S) with q | q
    · exact q
    · have e : k = bc S := by omega
      rw [e, nsN_no w hn hS] at z
      obtain ⟨i, hi, h⟩ := (ou_m (by omega)).mp z
      have h2 := congrArg Int32.toInt h
      rw [nI_toInt (by omega)] at h2
      have h3 : (-1 : Int32).toInt = -1 := by decide
      omega
  · rw [nsN_yes w hn hS z]
    exact (ou_m (by omega)).mpr ⟨_, (vs_next w hn hS z).2.2.1, rfl⟩
set_option maxHeartbeats 4000000 in
set_option maxRecDepth 100000 in
/-- go(v, x) -/
theorem c_X4_go (l : Launch) (D : va_G) (cA : Nat → ClassId) (e0 : Nat) (A : Nat → Prop) (H0 : Heap) (ad : Nat → Nat → Nat) (g : Nat → Nat → Int32) (tt : Nat → Int64) (N : Nat → Nat) (hX : xW D cA ad g tt N H0) (v x : Int32) (hA : xA A e0 ad N) (hW : hwAll g (N 0)) (hI : slInv g (N 0)) (hl9 : l.stackTraces = false) : vx_Met l yX4_go w_X4_go ({ frames := 7, cells := 2, slots := 12, locals := 121 } : Room) (xPc D cA e0 A H0 [.ref (ad 0 0), .int (v), .int (x)]) (xQi (fun r h => (okT (N 0) v ∧ okR 0 2000 x) ∧ ∃ g2, svOK g g2 (N 0) ∧ r = nI (goS (wy g) (cl v) g2 (vp_updL (vp_updL tt 1 (tt 1 + (rtF g (cl v)).toInt64)) 3 (tt 3 + 1)) (cl x) (bc (cl v))).2.2 ∧ xW D cA ad (goS (wy g) (cl v) g2 (vp_updL (vp_updL tt 1 (tt 1 + (rtF g (cl v)).toInt64)) 3 (tt 3 + 1)) (cl x) (bc (cl v))).1 (goS (wy g) (cl v) g2 (vp_updL (vp_updL tt 1 (tt 1 + (rtF g (cl v)).toInt64)) 3 (tt 3 + 1)) (cl x) (bc (cl v))).2.1 N h) A) (xX (fun E => E = xIAE ∧ ¬ (okT (N 0) v ∧ okR 0 2000 x))) 2 12 (A) := by
  refine vx_ofW (cc := cX4_go) (maxL := 7) (ret := (some .int)) (by decide) rfl ?_
  intro p e s m args below meth c s₁ B hml hxt hv
  obtain ⟨rfl, hH, hE⟩ := hv
  subst hH
  have hx := B.exec
  have hb := B.bytes
  have hr := B.returns
  have hts := hE.1.all ([.ref (ad 0 0), .int (v), .int (x)] : List Value).toArray
  have hown : s.vm.findClass RX4 = some m.cls := findClass_of_methodNamed B.named
  have hlocks := B.notSynchronized
  have hK := hE.2.1
  have hS : va_S A s.heap s.heap [] := va_S.rf
  have hl := lv_entry ([.ref (ad 0 0), .int (v), .int (x)]) (n := 7) (Nat.le_of_ble_eq_true rfl)
  rw [lg_entry_eq]
  generalize (lg_sl ([.ref (ad 0 0), .int (v), .int (x)]) ++ List.replicate (7 - (lg_sl ([.ref (ad 0 0), .int (v), .int (x)])).length) Slot.unset).toArray = ls at hl ⊢
  have hl : lv_has ls 7 [(0, .ref (ad 0 0)), (1, .int (v)), (2, .int (x))] := hl
  have hn8 := hA.n8
  have h256 := pow256 hn8
  refine lv_aload_n hx hb dX4_go_0 rfl (lv_at hl 0 rfl) ?_
  refine lv_iload_n hx hb dX4_go_1 rfl (lv_at hl 1 rfl) ?_
  refine xcXv (vx_runV (As := [.int (v)]) (rest := []) ⟨hx, hb, hml, hown, hts⟩ (c_X4_requireSet l D cA e0 A s.heap ad g tt N hX v hA hl9) ⟨(callB_of 1 hts gi_X4_requireSet rfl rfl rfl (hts _ q_ini_X4) (hts _ q_ml_X4_155) hd_X4_requireSet ⟨Nat.le_of_ble_eq_true rfl, Nat.le_of_ble_eq_true rfl⟩), hts _ q_im_X4_requireSet, hts _ q_sel_X4_X4_requireSet⟩ (xpV hE hS (hX.main) rfl) rfl rfl hl.1 rfl (lv_room (Nat.le_of_ble_eq_true rfl)) dX4_go_2 ⟨Nat.le_of_ble_eq_true rfl, Nat.le_of_ble_eq_true rfl⟩) hS (fun q h => h) (fun E9 ce9 q9 H9 locs9 hPX9 hz9 hk9 hS9 hc9 hv9 hcl9 => ?_) (fun H1 locs hP9 hz9 hk9 hS => ?_)
  · exact vx_out (fun x h => (hxt x h).elim) hlocks hc9 hv9 hcl9 (fun t ht _ => ⟨(), trivial, ⟨hPX9.1, fun z => hPX9.2 z.1⟩, by rw [ht]; exact hz9, fun q hq _ => by rw [ht]; exact hk9 q hq⟩) hS9.2.2 (Nat.le_of_ble_eq_true rfl) (Nat.le_of_ble_eq_true rfl)
  obtain ⟨rfl, S, hS2, rfl⟩ := hP9
  have hSt : S < 256 := Nat.lt_of_lt_of_le hS2 (pow256 hA.n8)
  refine lv_iload_n hx hb dX4_go_5 rfl (lv_at hl 2 rfl) ?_
  refine xcXv (vx_runS (As := [.int (x)]) (rest := []) ⟨hx, hb, hml, hown, hts⟩ (c_X4_requireLoad l D cA e0 A s.heap x hl9) ⟨(callB_of 1 hts gi_X4_requireLoad rfl rfl rfl (hts _ q_ini_X4) (hts _ q_ml_X4_182) hd_X4_requireLoad ⟨Nat.le_of_ble_eq_true rfl, Nat.le_of_ble_eq_true rfl⟩), hts _ q_st_X4_requireLoad⟩ (xpS hE hS) rfl rfl hl.1 rfl (lv_room (Nat.le_of_ble_eq_true rfl)) dX4_go_6 ⟨Nat.le_of_ble_eq_true rfl, Nat.le_of_ble_eq_true rfl⟩) hS (fun q h => h) (fun E9 ce9 q9 H9 locs9 hPX9 hz9 hk9 hS9 hc9 hv9 hcl9 => ?_) (fun H2 locs hP9 hz9 hk9 hS => ?_)
  · exact vx_out (fun x h => (hxt x h).elim) hlocks hc9 hv9 hcl9 (fun t ht _ => ⟨(), trivial, ⟨hPX9.1, fun z => hPX9.2 (okR_k.mpr z.2)⟩, by rw [ht]; exact hz9, fun q hq _ => by rw [ht]; exact hk9 q hq⟩) hS9.2.2 (Nat.le_of_ble_eq_true rfl) (Nat.le_of_ble_eq_true rfl)
  obtain ⟨rfl, L, hL, rfl⟩ := hP9
  refine lv_aload_n hx hb dX4_go_9 rfl (lv_at hl 0 rfl) ?_
  refine xcv (va_runV (As := []) (rest := []) ⟨hx, hb, hml, hown, hts⟩ (c_X4_survey l D cA e0 A s.heap ad g tt N hX hA) ⟨(callB_of 0 hts gi_X4_survey rfl rfl rfl (hts _ q_ini_X4) (hts _ q_ml_X4_174) hd_X4_survey ⟨Nat.le_of_ble_eq_true rfl, Nat.le_of_ble_eq_true rfl⟩), hts _ q_im_X4_survey, hts _ q_sel_X4_X4_survey⟩ (xpV hE hS (hX.main) rfl) rfl rfl hl.1 rfl (lv_room (Nat.le_of_ble_eq_true rfl)) dX4_go_10 ⟨Nat.le_of_ble_eq_true rfl, Nat.le_of_ble_eq_true rfl⟩) hS (fun q h => h) (fun H3 locs hP9 hz9 hk9 hS => ?_)
  obtain ⟨g2, hX2, hv2⟩ := hP9
  refine lv_aload_n hx hb dX4_go_13 rfl (lv_at hl 0 rfl) ?_
  refine lv_dup hx hb dX4_go_14 rfl ?_
  refine va_get (D := D) (ci := 5) (v := .long (tt 1)) (C := RX4) (T := TX4) (N := 11) hx hb hts qi_X4 hown hK (xP1 (hX2.main)) 0 rfl rfl 8 (by decide) (hts _ q_fl_X4_189) (fun _ h9 => h9) rfl dX4_go_15 ?_
  refine lv_aload_n hx hb dX4_go_18 rfl (lv_at hl 0 rfl) ?_
  refine lv_iload_n hx hb dX4_go_19 rfl (lv_at hl 1 rfl) ?_
  refine xcRi (va_runV (As := [.int (nI (S))]) (rest := [.long (tt 1), .ref (ad 0 0)]) ⟨hx, hb, hml, hown, hts⟩ (c_X4_roundTime l D cA e0 A H3 ad g2 tt N hX2 S hSt (sv_hw hv2 hW S hS2)) ⟨(callB_of 1 hts gi_X4_roundTime rfl rfl rfl (hts _ q_ini_X4) (hts _ q_ml_X4_177) hd_X4_roundTime ⟨Nat.le_of_ble_eq_true rfl, Nat.le_of_ble_eq_true rfl⟩), hts _ q_im_X4_roundTime, hts _ q_sel_X4_X4_roundTime⟩ (xpV hE hS (hX2.main) rfl) rfl rfl hl.1 rfl (lv_room (Nat.le_of_ble_eq_true rfl)) dX4_go_20 ⟨Nat.le_of_ble_eq_true rfl, Nat.le_of_ble_eq_true rfl⟩) ?_
  refine xtop (show (tw (wy g2) S 8 + selF S (g2 14) 8) = rtF g S from sv_rt hv2 (by omega)) ?_
  refine lv_i2l (v := (rtF g S).toInt64) hx hb dX4_go_23 rfl ?_
  refine lv_ladd hx hb dX4_go_24 ?_
  refine xput (D := D) (ci := 5) (v := .long ((tt 1) + ((rtF g S).toInt64))) (C := RX4) (T := TX4) (N := 11) hx hb hts qi_X4 tyX4 tyX4_ok nmX4 hown hK hS (hX2.main) (hA.a (xV0 (by omega))) rfl 8 (by decide) (hts _ q_fl_X4_189) (fun _ h9 => h9) rfl (tyX4_ok 8 (by decide)) rfl rfl (Nat.le_of_ble_eq_true rfl) dX4_go_25 (fun H4 locs hU hS => ?_)
  have hX5 := hX2.ptt (tt' := vp_updL tt 1 ((tt 1) + ((rtF g S).toInt64))) hA hU
  obtain ⟨t5, ht5⟩ : ∃ z, z = vp_updL tt 1 ((tt 1) + ((rtF g S).toInt64)) := ⟨_, rfl⟩
  rw [← ht5] at hX5
  refine lv_aload_n hx hb dX4_go_28 rfl (lv_at hl 0 rfl) ?_
  refine lv_dup hx hb dX4_go_29 rfl ?_
  refine va_get (D := D) (ci := 5) (v := .long (t5 3)) (C := RX4) (T := TX4) (N := 11) hx hb hts qi_X4 hown hK (xP1 (hX5.main)) 0 rfl rfl 10 (by decide) (hts _ q_fl_X4_193) (fun _ h9 => h9) rfl dX4_go_30 ?_
  refine lv_lconst (v := 1) hx hb dX4_go_33 (by decide) ?_
  refine lv_ladd hx hb dX4_go_34 ?_
  refine xput (D := D) (ci := 5) (v := .long ((t5 3) + 1)) (C := RX4) (T := TX4) (N := 11) hx hb hts qi_X4 tyX4 tyX4_ok nmX4 hown hK hS (hX5.main) (hA.a (xV0 (by omega))) rfl 10 (by decide) (hts _ q_fl_X4_193) (fun _ h9 => h9) rfl (tyX4_ok 10 (by decide)) rfl rfl (Nat.le_of_ble_eq_true rfl) dX4_go_35 (fun H6 locs hU hS => ?_)
  have hX7 := hX5.ptt (tt' := vp_updL t5 3 ((t5 3) + 1)) hA hU
  obtain ⟨t7, ht7⟩ : ∃ z, z = vp_updL t5 3 ((t5 3) + 1) := ⟨_, rfl⟩
  rw [← ht7] at hX7
  obtain ⟨t2, ht2⟩ : ∃ z, z = t7 := ⟨_, rfl⟩
  have hXt := hX7
  rw [← ht2] at hXt
  have hI2 : slInv g2 (N 0) := inv_c hI (hv2.1 4 (by omega) (by omega) (by omega)) (hv2.1 5 (by omega) (by omega) (by omega)) (hv2.1 7 (by omega) (by omega) (by omega))
  refine lv_iload_n hx hb dX4_go_38 rfl (lv_at hl 1 rfl) ?_
  refine lv_istore_n (lv' := [(3, .int (nI (S))), (0, .ref (ad 0 0)), (1, .int (nI (S))), (2, .int (nI (L)))]) hx hb dX4_go_39 rfl hl (by decide) rfl (fun ls hl => ?_)
  refine lv_iload_n hx hb dX4_go_40 rfl (lv_at hl 3 rfl) ?_
  refine lv_istore (lv' := [(4, .int (nI (L))), (3, .int (nI (S))), (0, .ref (ad 0 0)), (1, .int (nI (S))), (2, .int (nI (L)))]) hx hb dX4_go_41 hl (by decide) rfl (fun ls hl => ?_)
  refine lv_aload_n hx hb dX4_go_43 rfl (lv_at hl 2 rfl) ?_
  refine va_get (D := D) (ci := 5) (v := .ref (ad 0 3)) (C := RX4) (T := TX4) (N := 11) hx hb hts qi_X4 hown hK (xP1 (hXt.main)) 0 rfl rfl 2 (by decide) (hts _ q_fl_X4_22) (fun _ h9 => h9) rfl dX4_go_44 ?_
  refine lv_iconst (v := (-1)) hx hb dX4_go_47 (by decide) ?_
  refine lv_iload_n hx hb dX4_go_48 rfl (lv_at hl 1 rfl) ?_
  refine xcRi (va_runV (As := [.int ((-1)), .int (nI (S))]) (rest := []) ⟨hx, hb, hml, hown, hts⟩ (c_X2_nextStop l D cA e0 A H6 ad g2 t2 N hXt (-1) 8 S isPl_d hSt (sv_hw hv2 hW S hS2)) ⟨(callB_of 2 hts gi_X2_nextStop rfl rfl rfl (hts _ q_ini_X2) (hts _ q_ml_X4_168) hd_X2_nextStop ⟨Nat.le_of_ble_eq_true rfl, Nat.le_of_ble_eq_true rfl⟩), hts _ q_im_X2_nextStop, hts _ q_sel_X2_X2_nextStop⟩ (xpV hE hS (hXt.roads) rfl) rfl rfl hl.1 rfl (lv_room (Nat.le_of_ble_eq_true rfl)) dX4_go_49 ⟨Nat.le_of_ble_eq_true rfl, Nat.le_of_ble_eq_true rfl⟩) ?_
  refine xtop (show (amN (fun m => wy g2 8 m + tw (wy g2) (S - 2 ^ m) m) S 8) = nsN (wy g) S 0 from by rw [sv_wy hv2]; rfl) ?_
  refine lv_istore (lv' := [(5, .int (nsN (wy g) S 0)), (4, .int (nI (L))), (3, .int (nI (S))), (0, .ref (ad 0 0)), (1, .int (nI (S))), (2, .int (nI (L)))]) hx hb dX4_go_52 hl (by decide) rfl (fun ls hl => ?_)
  refine lv_iconst (v := nI 0) hx hb dX4_go_54 (by decide) ?_
  refine lv_istore (lv' := [(6, .int (nI 0)), (5, .int (nsN (wy g) S 0)), (4, .int (nI (L))), (3, .int (nI (S))), (0, .ref (ad 0 0)), (1, .int (nI (S))), (2, .int (nI (L)))]) hx hb dX4_go_55 hl (by decide) rfl (fun ls hl => ?_)
  have LOOP57 : ∀ (n57 : Nat) (k : Nat) (hv : Int32) (ll : Nat) (g3 : Nat → Nat → Int32) (t3 : Nat → Int64) (H : Heap) (locs : List Loc) (ls : Array Slot), (k ≤ bc S) → (hv = nsN (wy g) S k) → (xW D cA ad g3 t3 N H) → (g3 = (goS (wy g) S g2 t2 L k).1) → (t3 = (goS (wy g) S g2 t2 L k).2.1) → (ll = (goS (wy g) S g2 t2 L k).2.2) → va_S A s.heap H locs → (bc S - k) < n57 → lv_has ls 7 [(5, .int (hv)), (3, .int (nI ((vs (wy g) S k).1))), (4, .int (nI (ll))), (6, .int (nI (k))), (0, .ref (ad 0 0)), (1, .int (nI (S)))] → W p l e (headSpec w_X4_go ({ frames := 7, cells := 2, slots := 12, locals := 121 } : Room)).room s m ([.ref (ad 0 0), .int ((nI S)), .int ((nI L))] : List Value).toArray below meth c H locs (((0 + 1) + 1) + 0) (((0 + 6) + 6) + 0) (vx_MQ below (xQi (fun r h => (okT (N 0) (nI S) ∧ okR 0 2000 (nI L)) ∧ ∃ g2, svOK g g2 (N 0) ∧ r = nI (goS (wy g) (cl (nI S)) g2 (vp_updL (vp_updL tt 1 (tt 1 + (rtF g (cl (nI S))).toInt64)) 3 (tt 3 + 1)) (cl (nI L)) (bc (cl (nI S)))).2.2 ∧ xW D cA ad (goS (wy g) (cl (nI S)) g2 (vp_updL (vp_updL tt 1 (tt 1 + (rtF g (cl (nI S))).toInt64)) 3 (tt 3 + 1)) (cl (nI L)) (bc (cl (nI S)))).1 (goS (wy g) (cl (nI S)) g2 (vp_updL (vp_updL tt 1 (tt 1 + (rtF g (cl (nI S))).toInt64)) 3 (tt 3 + 1)) (cl (nI L)) (bc (cl (nI S)))).2.1 N h) A) (xX (fun E => E = xIAE ∧ ¬ (okT (N 0) (nI S) ∧ okR 0 2000 (nI L)))) ([.ref (ad 0 0), .int ((nI S)), .int ((nI L))] : List Value).toArray s 2 12 (A)) (F0 m 57 ls []) := by
    intro n57
    induction n57 with
    | zero => intro k hv ll g3 t3 H locs ls hk hhv hX3 hg3 ht3 hll hS hmeas hl; exact absurd hmeas (Nat.not_lt_zero _)
    | succ n57 ih57 =>
      intro k hv ll g3 t3 H locs ls hk hhv hX3 hg3 ht3 hll hS hmeas hl
      have hw3 : wy g3 = wy g := (wy_c (by rw [hg3, goS_t (wy g) S g2 t2 L (by omega) (by omega) (by omega) k])).trans (sv_wy hv2)
      have hW3 : hwAll g3 (N 0) := hwAll_c (by rw [hg3, goS_t (wy g) S g2 t2 L (by omega) (by omega) (by omega) k]) (by rw [hg3, goS_t (wy g) S g2 t2 L (by omega) (by omega) (by omega) k]) (sv_hw hv2 hW)
      have hI3 : slInv g3 (N 0) := by rw [hg3]; exact goS_iv t2 L hn8 hS2 hI2 k hk
      have hb8 := bc_le S hSt
      have hl2 : ll ≤ 2000 := by rw [hll]; exact Nat.le_trans (goS_le _ _ _ _ _ k) hL
      refine lv_iload hx hb dX4_go_57 (lv_at hl 3 rfl) ?_
      refine lv_bipush (v := nI 8) hx hb dX4_go_59 (by decide) ?_
      refine lv_icmp_ge (tgt := 121) hx hb dX4_go_61 (by decide) (fun c61 => ?_) (fun c61 => ?_)
      · have c61 : 8 ≤ k := (nI_leI (a := 8) (b := k) (by omega) (by omega)).mp c61
        have hk9 : k = bc S := by omega
        refine lv_iload hx hb dX4_go_121 (lv_at hl 2 rfl) ?_
        refine vx_ret ?_
        have hpost : (fun r h => (okT (N 0) (nI S) ∧ okR 0 2000 (nI L)) ∧ ∃ g2, svOK g g2 (N 0) ∧ r = nI (goS (wy g) (cl (nI S)) g2 (vp_updL (vp_updL tt 1 (tt 1 + (rtF g (cl (nI S))).toInt64)) 3 (tt 3 + 1)) (cl (nI L)) (bc (cl (nI S)))).2.2 ∧ xW D cA ad (goS (wy g) (cl (nI S)) g2 (vp_updL (vp_updL tt 1 (tt 1 + (rtF g (cl (nI S))).toInt64)) 3 (tt 3 + 1)) (cl (nI L)) (bc (cl (nI S)))).1 (goS (wy g) (cl (nI S)) g2 (vp_updL (vp_updL tt 1 (tt 1 + (rtF g (cl (nI S))).toInt64)) 3 (tt 3 + 1)) (cl (nI L)) (bc (cl (nI S)))).2.1 N h) (nI (ll)) H := by
          have z : t2 = vp_updL (vp_updL tt 1 (tt 1 + (rtF g (cl (nI S))).toInt64)) 3 (tt 3 + 1) := by rw [ht2, ht7, ht5, cl_nI (n := S) (by omega)]; rfl
          have z1 : cl (nI S) = S := cl_nI (by omega)
          have z2 : cl (nI L) = L := cl_nI (by omega)
          refine ⟨⟨⟨S, hS2, rfl⟩, L, Nat.zero_le _, hL, rfl⟩, g2, hv2, ?_, ?_⟩
          · rw [← z, z1, z2, ← hk9, ← hll]
          · rw [← z, z1, z2, ← hk9, ← hg3, ← ht3]
            exact hX3
        refine W.widen (k := 2) (n := 12) (by omega) (by omega) ?_
        exact W.iret (v := (nI (ll))) hx hb hr (fun t ht _ => ⟨⟨(nI (ll)), H, rfl, hpost, ht⟩, hS.F ht⟩) hS.2.2 dX4_go_123
      · have c61 : ¬ (8 ≤ k) := fun z => c61 ((nI_leI (a := 8) (b := k) (by omega) (by omega)).mpr z)
        refine lv_aload_n hx hb dX4_go_64 rfl (lv_at hl 4 rfl) ?_
        refine lv_iload hx hb dX4_go_65 (lv_at hl 0 rfl) ?_
        refine xcRi (va_runV (As := [.int (hv)]) (rest := []) ⟨hx, hb, hml, hown, hts⟩ (c_X4_isNoMachine l D cA e0 A H ad g3 t3 N hX3 hv) ⟨(callB_of 1 hts gi_X4_isNoMachine rfl rfl rfl (hts _ q_ini_X4) (hts _ q_ml_X4_196) hd_X4_isNoMachine ⟨Nat.le_of_ble_eq_true rfl, Nat.le_of_ble_eq_true rfl⟩), hts _ q_im_X4_isNoMachine, hts _ q_sel_X4_X4_isNoMachine⟩ (xpV hE hS (hX3.main) rfl) rfl rfl hl.1 rfl (lv_room (Nat.le_of_ble_eq_true rfl)) dX4_go_67 ⟨Nat.le_of_ble_eq_true rfl, Nat.le_of_ble_eq_true rfl⟩) ?_
        refine lv_if_ne (tgt := 121) hx hb dX4_go_70 (by decide) (fun c70 => ?_) (fun c70 => ?_)
        · have hk9 : k = bc S := by
            rcases Nat.lt_or_ge k (bc S) with q | q
            · exact absurd ((nsN_m (wy g) hn8 hS2 hk).mpr q) (by rw [← hhv]; exact c70)
            · omega
          refine lv_iload hx hb dX4_go_121 (lv_at hl 2 rfl) ?_
          refine vx_ret ?_
          have hpost : (fun r h => (okT (N 0) (nI S) ∧ okR 0 2000 (nI L)) ∧ ∃ g2, svOK g g2 (N 0) ∧ r = nI (goS (wy g) (cl (nI S)) g2 (vp_updL (vp_updL tt 1 (tt 1 + (rtF g (cl (nI S))).toInt64)) 3 (tt 3 + 1)) (cl (nI L)) (bc (cl (nI S)))).2.2 ∧ xW D cA ad (goS (wy g) (cl (nI S)) g2 (vp_updL (vp_updL tt 1 (tt 1 + (rtF g (cl (nI S))).toInt64)) 3 (tt 3 + 1)) (cl (nI L)) (bc (cl (nI S)))).1 (goS (wy g) (cl (nI S)) g2 (vp_updL (vp_updL tt 1 (tt 1 + (rtF g (cl (nI S))).toInt64)) 3 (tt 3 + 1)) (cl (nI L)) (bc (cl (nI S)))).2.1 N h) (nI (ll)) H := by
            have z : t2 = vp_updL (vp_updL tt 1 (tt 1 + (rtF g (cl (nI S))).toInt64)) 3 (tt 3 + 1) := by rw [ht2, ht7, ht5, cl_nI (n := S) (by omega)]; rfl
            have z1 : cl (nI S) = S := cl_nI (by omega)
            have z2 : cl (nI L) = L := cl_nI (by omega)
            refine ⟨⟨⟨S, hS2, rfl⟩, L, Nat.zero_le _, hL, rfl⟩, g2, hv2, ?_, ?_⟩
            · rw [← z, z1, z2, ← hk9, ← hll]
            · rw [← z, z1, z2, ← hk9, ← hg3, ← ht3]
              exact hX3
          refine W.widen (k := 2) (n := 12) (by omega) (by omega) ?_
          exact W.iret (v := (nI (ll))) hx hb hr (fun t ht _ => ⟨⟨(nI (ll)), H, rfl, hpost, ht⟩, hS.F ht⟩) hS.2.2 dX4_go_123
        · have hk1 : k < bc S := (nsN_m (wy g) hn8 hS2 hk).mp (by rw [← hhv]; exact c70)
          obtain ⟨v1, v2, v3, v4⟩ := vs_next (wy g) (k := k) hn8 hS2 hk1
          have v5 : (vs (wy g) S (k + 1)).1 < 2 ^ N 0 := Nat.lt_of_le_of_lt (vs_ok (wy g) hn8 hS2 (k + 1) hk1).1 hS2
          have hv9 : hv = nI (vs (wy g) S (k + 1)).2 := by rw [hhv, nsN_yes (wy g) hn8 hS2 hk1]
          refine lv_iload hx hb dX4_go_73 (lv_at hl 2 rfl) ?_
          refine lv_aload_n hx hb dX4_go_75 rfl (lv_at hl 4 rfl) ?_
          refine lv_aload_n hx hb dX4_go_76 rfl (lv_at hl 4 rfl) ?_
          refine va_get (D := D) (ci := 5) (v := .ref (ad 0 1)) (C := RX4) (T := TX4) (N := 11) hx hb hts qi_X4 hown hK (xP1 (hX3.main)) 0 rfl rfl 0 (by decide) (hts _ q_fl_X4_10) (fun _ h9 => h9) rfl dX4_go_77 ?_
          refine lv_iload hx hb dX4_go_80 (lv_at hl 0 rfl) ?_
          refine xtop (show (hv) = nI ((vs (wy g) S (k + 1)).2) from hv9) ?_
          refine xcRr (va_runV (As := [.int (nI ((vs (wy g) S (k + 1)).2))]) (rest := [.ref (ad 0 0), .int (nI (ll))]) ⟨hx, hb, hml, hown, hts⟩ (c_Jx4a65c_get_915e3 l D cA e0 A H (ad 0 1) (g3 18 0) (ad 0 9) (N 0) (hX3.ml) (N 2) (fun j => if j < N 0 then some (ad 1 j) else none) (hX3.md (by have := hA.2.2.2.2.2.1; omega)) (vs (wy g) S (k + 1)).2 (ad 1 (vs (wy g) S (k + 1)).2) v3 hA.2.2.2.2.2.1 (by have := hA.2.2.2.2.2.2.1; omega) (if_pos v3)) ⟨(callB_of 1 hts gi_Jx4a65c_get_915e3 rfl rfl rfl (hts _ q_ini_Jx4a65c) (hts _ q_ml_X4_199) hd_Jx4a65c_get_915e3 ⟨Nat.le_of_ble_eq_true rfl, Nat.le_of_ble_eq_true rfl⟩), hts _ q_im_Jx4a65c_get_915e3, hts _ q_sel_Jx4a65c_Jx4a65c_get_915e3⟩ (xpV hE hS (hX3.ml) rfl) rfl rfl hl.1 rfl (lv_room (Nat.le_of_ble_eq_true rfl)) dX4_go_82 ⟨Nat.le_of_ble_eq_true rfl, Nat.le_of_ble_eq_true rfl⟩) ?_
          refine va_castS hx hb hown (hts _ q_cl_X4_57) (hK.1 1 _ rfl).2 (va_recv hK (xP1 (hX3.mach v3)) (ci := 1) (q0 := 0) rfl rfl) dX4_go_85 ?_
          refine lv_iload hx hb dX4_go_88 (lv_at hl 2 rfl) ?_
          refine xci (va_runV (As := [.ref (ad 1 (vs (wy g) S (k + 1)).2), .int (nI (ll))]) (rest := [.int (nI (ll))]) ⟨hx, hb, hml, hown, hts⟩ (c_X4_serve l D cA e0 A H ad g3 t3 N hX3 hA (vs (wy g) S (k + 1)).2 v3 ll hl2 hI3) ⟨(callB_of 2 hts gi_X4_serve rfl rfl rfl (hts _ q_ini_X4) (hts _ q_ml_X4_203) hd_X4_serve ⟨Nat.le_of_ble_eq_true rfl, Nat.le_of_ble_eq_true rfl⟩), hts _ q_im_X4_serve, hts _ q_sel_X4_X4_serve⟩ (xpV hE hS (hX3.main) rfl) rfl rfl hl.1 rfl (lv_room (Nat.le_of_ble_eq_true rfl)) dX4_go_90 ⟨Nat.le_of_ble_eq_true rfl, Nat.le_of_ble_eq_true rfl⟩) hS (fun q h => h) (fun r_8 H8 locs hP9 hz9 hk9 hS => ?_)
          obtain ⟨hX9, hr9⟩ := hP9
          rw [hr9]
          obtain ⟨g4, hg4⟩ : ∃ z, z = (svF g3 t3 (vs (wy g) S (k + 1)).2 ll).1 := ⟨_, rfl⟩
          obtain ⟨t4, ht4⟩ : ∃ z, z = (svF g3 t3 (vs (wy g) S (k + 1)).2 ll).2.1 := ⟨_, rfl⟩
          rw [← hg4, ← ht4] at hX9
          have hw4 : wy g4 = wy g := (wy_c (by rw [hg4]; exact svF_t _ _ _ _ (by omega) (by omega) (by omega))).trans hw3
          have hW4 : hwAll g4 (N 0) := hwAll_c (by rw [hg4]; exact svF_t _ _ _ _ (by omega) (by omega) (by omega)) (by rw [hg4]; exact svF_t _ _ _ _ (by omega) (by omega) (by omega)) hW3
          refine lv_isub hx hb dX4_go_93 ?_
          refine xtop (show ((nI (ll)) - (nI (ll - (svF g3 t3 (vs (wy g) S (k + 1)).2 ll).2.2))) = nI ((svF g3 t3 (vs (wy g) S (k + 1)).2 ll).2.2) from go_sub (svF_le _ _ _ _)) ?_
          refine lv_istore (lv' := [(4, .int (nI ((svF g3 t3 (vs (wy g) S (k + 1)).2 ll).2.2))), (5, .int (hv)), (3, .int (nI ((vs (wy g) S k).1))), (6, .int (nI (k))), (0, .ref (ad 0 0)), (1, .int (nI (S)))]) hx hb dX4_go_94 hl (by decide) rfl (fun ls hl => ?_)
          refine lv_iload_n hx hb dX4_go_96 rfl (lv_at hl 2 rfl) ?_
          refine lv_iload hx hb dX4_go_97 (lv_at hl 1 rfl) ?_
          refine xtop (show (hv) = nI ((vs (wy g) S (k + 1)).2) from hv9) ?_
          refine xcRi (va_runS (As := [.int (nI ((vs (wy g) S k).1)), .int (nI ((vs (wy g) S (k + 1)).2))]) (rest := []) ⟨hx, hb, hml, hown, hts⟩ (c_X4_without l D cA e0 A H8 (vs (wy g) S k).1 (vs (wy g) S (k + 1)).2 (by omega) (by omega) v4) ⟨(callB_of 2 hts gi_X4_without rfl rfl rfl (hts _ q_ini_X4) (hts _ q_ml_X4_171) hd_X4_without ⟨Nat.le_of_ble_eq_true rfl, Nat.le_of_ble_eq_true rfl⟩), hts _ q_st_X4_without⟩ (xpS hE hS) rfl rfl hl.1 rfl (lv_room (Nat.le_of_ble_eq_true rfl)) dX4_go_99 ⟨Nat.le_of_ble_eq_true rfl, Nat.le_of_ble_eq_true rfl⟩) ?_
          refine lv_istore_n (lv' := [(3, .int (nI ((vs (wy g) S (k + 1)).1))), (4, .int (nI ((svF g3 t3 (vs (wy g) S (k + 1)).2 ll).2.2))), (5, .int (hv)), (6, .int (nI (k))), (0, .ref (ad 0 0)), (1, .int (nI (S)))]) hx hb dX4_go_102 rfl hl (by decide) rfl (fun ls hl => ?_)
          refine lv_aload_n hx hb dX4_go_103 rfl (lv_at hl 4 rfl) ?_
          refine va_get (D := D) (ci := 5) (v := .ref (ad 0 3)) (C := RX4) (T := TX4) (N := 11) hx hb hts qi_X4 hown hK (xP1 (hX9.main)) 0 rfl rfl 2 (by decide) (hts _ q_fl_X4_22) (fun _ h9 => h9) rfl dX4_go_104 ?_
          refine lv_iload hx hb dX4_go_107 (lv_at hl 2 rfl) ?_
          refine xtop (show (hv) = nI ((vs (wy g) S (k + 1)).2) from hv9) ?_
          refine lv_iload_n hx hb dX4_go_109 rfl (lv_at hl 0 rfl) ?_
          refine xcRi (va_runV (As := [.int (nI ((vs (wy g) S (k + 1)).2)), .int (nI ((vs (wy g) S (k + 1)).1))]) (rest := []) ⟨hx, hb, hml, hown, hts⟩ (c_X2_nextStop l D cA e0 A H8 ad g4 t4 N hX9 (nI (vs (wy g) S (k + 1)).2) (vs (wy g) S (k + 1)).2 (vs (wy g) S (k + 1)).1 (isPl_m (by omega)) (by omega) (hW4 _ v5)) ⟨(callB_of 2 hts gi_X2_nextStop rfl rfl rfl (hts _ q_ini_X2) (hts _ q_ml_X4_168) hd_X2_nextStop ⟨Nat.le_of_ble_eq_true rfl, Nat.le_of_ble_eq_true rfl⟩), hts _ q_im_X2_nextStop, hts _ q_sel_X2_X2_nextStop⟩ (xpV hE hS (hX9.roads) rfl) rfl rfl hl.1 rfl (lv_room (Nat.le_of_ble_eq_true rfl)) dX4_go_110 ⟨Nat.le_of_ble_eq_true rfl, Nat.le_of_ble_eq_true rfl⟩) ?_
          refine xtop (show (amN (fun m => wy g4 (vs (wy g) S (k + 1)).2 m + tw (wy g4) ((vs (wy g) S (k + 1)).1 - 2 ^ m) m) (vs (wy g) S (k + 1)).1 8) = nsN (wy g) S (k + 1) from by rw [hw4]; rfl) ?_
          refine lv_istore (lv' := [(5, .int (nsN (wy g) S (k + 1))), (3, .int (nI ((vs (wy g) S (k + 1)).1))), (4, .int (nI ((svF g3 t3 (vs (wy g) S (k + 1)).2 ll).2.2))), (6, .int (nI (k))), (0, .ref (ad 0 0)), (1, .int (nI (S)))]) hx hb dX4_go_113 hl (by decide) rfl (fun ls hl => ?_)
          refine lv_iinc (v := nI (k + 1)) (lv' := [(6, .int (nI (k + 1))), (5, .int (nsN (wy g) S (k + 1))), (3, .int (nI ((vs (wy g) S (k + 1)).1))), (4, .int (nI ((svF g3 t3 (vs (wy g) S (k + 1)).2 ll).2.2))), (0, .ref (ad 0 0)), (1, .int (nI (S)))]) hx hb dX4_go_115 hl (k := 3) rfl (nI_add k 1) (by decide) rfl (fun ls hl => ?_)
          refine lv_goto (tgt := 57) hx hb dX4_go_118 (by decide) ?_
          exact ih57 (k + 1) (nsN (wy g) S (k + 1)) (svF g3 t3 (vs (wy g) S (k + 1)).2 ll).2.2 g4 t4 H8 locs _ (by omega) rfl hX9 (by rw [hg4, hg3, ht3, hll]; rfl) (by rw [ht4, hg3, ht3, hll]; rfl) (by rw [hg3, ht3, hll]; rfl) hS (by omega) (lv_sub hl [1, 2, 3, 0, 4, 5] rfl)
  exact LOOP57 _ 0 (nsN (wy g) S 0) L g2 t2 H6 locs _ (by omega) rfl hXt rfl rfl rfl hS (Nat.lt_succ_self _) (lv_sub hl [1, 3, 2, 0, 4, 5] rfl)
