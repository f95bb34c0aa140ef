/-! The law's calls of the class, with what they catch (by p59.py) -/
set_option maxHeartbeats 4000000 in
set_option maxRecDepth 100000 in
/-- the law's call of addMachine -/
theorem c_L_addMachine (l : Launch) (D : va_G) (cA : Nat → ClassId) (e0 : Nat) (A : Nat → Prop) (H0 : Heap) (ad : Nat → Nat → Nat) (g : Nat → Nat → Int32) (tt : Nat → Int64) (N : Nat → Nat) (hX : xW D cA ad g tt N H0) (v : Int32) (Fc : Nat → Prop) (hF : ∀ q, Fc q → A q) (hA : xA Fc e0 ad N) (hAn : ∀ q, H0.size ≤ q → Fc q) (hdf : dfl g (N 0)) (hC : chOK g (N 0) (N 1)) (hN2x : N 2 = 0 ∨ N 2 = 10) (o : Nat) (f0 : Nat → Int64) (hO : outW D cA o f0 H0) (hAo : A o) (hoF : ¬ Fc o) (hl9 : l.stackTraces = false) : Met l yL_addMachine w_L_addMachine ({ frames := 8, cells := 9, slots := 56, locals := 192 } : Room) (xPn D cA e0 A H0 [.ref (ad 0 0), .int (v), .ref (o)]) (xQi (fun r h => (r = nI 0 ∧ ∃ f1, outW D cA o f1 h ∧ okR 100 100000 v ∧ N 0 < 8 ∧ f1 0 = (nI (N 0)).toInt64 ∧ ∃ ad2 g2, xW D cA ad2 g2 tt (amN' N) h ∧ xA Fc e0 ad2 (amN' N) ∧ ad2 0 0 = ad 0 0 ∧ (∀ t, t ≠ 17 → g2 t = amG g (N 0) v t) ∧ hwAll g2 (N 0 + 1)) ∨ (r = nI 1 ∧ (¬ okR 100 100000 v) ∧ (xW D cA ad g tt N h ∧ outW D cA o f0 h)) ∨ (r = nI 2 ∧ (okR 100 100000 v ∧ ¬ N 0 < 8) ∧ (xW D cA ad g tt N h ∧ outW D cA o f0 h))) A) 9 56 (A) := by
  refine va_MetW (hh := [(0, 9, 12, 13), (0, 9, 15, 15)]) (cc := cL_addMachine) (maxL := 4) (ret := (some .int)) (by decide) rfl ?_
  intro p e s m args below meth c s₁ B hml hv
  obtain ⟨rfl, hH, hE, hNc⟩ := hv
  subst hH
  have hx := B.exec
  have hb := B.bytes
  have hr := B.returns
  have hts := hE.1.all ([.ref (ad 0 0), .int (v), .ref (o)] : List Value).toArray
  have htab := vx_table (x := yL_addMachine) B (hts _ q_co_L_addMachine)
  have hown : s.vm.findClass RL = some m.cls := findClass_of_methodNamed B.named
  have hlocks := B.notSynchronized
  have hK := hE.2.1
  have hS : va_S A s.heap s.heap [] := va_S.rf
  have hl := lv_entry ([.ref (ad 0 0), .int (v), .ref (o)]) (n := 4) (Nat.le_of_ble_eq_true rfl)
  rw [lg_entry_eq]
  generalize (lg_sl ([.ref (ad 0 0), .int (v), .ref (o)]) ++ List.replicate (4 - (lg_sl ([.ref (ad 0 0), .int (v), .ref (o)])).length) Slot.unset).toArray = ls at hl ⊢
  have hl : lv_has ls 4 [(0, .ref (ad 0 0)), (1, .int (v)), (2, .ref (o))] := hl
  refine lv_aload_n hx hb dL_addMachine_0 rfl (lv_at hl 2 rfl) ?_
  refine lv_iconst (v := nI 0) hx hb dL_addMachine_1 (by decide) ?_
  refine lv_aload_n hx hb dL_addMachine_2 rfl (lv_at hl 0 rfl) ?_
  refine lv_iload_n hx hb dL_addMachine_3 rfl (lv_at hl 1 rfl) ?_
  refine xcXi (vx_runV (As := [.int (v)]) (rest := [.int (nI 0), .ref (o)]) ⟨hx, hb, hml, hown, hts⟩ (c_X4_addMachine l D cA e0 Fc s.heap ad g tt N hX v hA hAn hl9 hdf hC hN2x) ⟨(callB_of 1 hts gi_X4_addMachine rfl rfl rfl (hts _ q_ini_X4) (hts _ q_ml_L_7) hd_X4_addMachine ⟨Nat.le_of_ble_eq_true rfl, Nat.le_of_ble_eq_true rfl⟩), hts _ q_im_X4_addMachine, hts _ q_sel_X4_X4_addMachine⟩ (xpVn hE hS hF (hX.main) rfl) rfl rfl hl.1 rfl (lv_room (Nat.le_of_ble_eq_true rfl)) dL_addMachine_4 ⟨Nat.le_of_ble_eq_true rfl, Nat.le_of_ble_eq_true rfl⟩) hS hF (fun E9 ce9 q9 H9 locs9 hPX9 hz9 hk9 hS9 hc9 hv9 hcl9 => ?_) (fun r_1 H1 locs hP9 hz9 hk9 hS => ?_)
  · rcases hPX9 with ⟨rfl, h1⟩ | ⟨rfl, h1⟩
    · refine vx_catch (E := xIAE) (name := xIAE) hown [] ⟨0, 9, 12, 13⟩ [⟨0, 9, 15, 15⟩] (by rw [htab]; rfl) (fun z hz => absurd hz List.not_mem_nil) (by decide) (by decide) (hts _ q_cl_L_13) (hts _ q_ca_java_lang_IllegalArgumentException_java_lang_IllegalArgumentException) hc9 hv9 hcl9 ?_
      have hS := hS9
      refine lv_astore_n (lv' := [(3, .ref (q9)), (0, .ref (ad 0 0)), (1, .int (v)), (2, .ref (o))]) hx hb dL_addMachine_12 rfl hl (by decide) rfl (fun ls hl => ?_)
      refine lv_iconst (v := nI 1) hx hb dL_addMachine_13 (by decide) ?_
      have hpost : (fun r h => (r = nI 0 ∧ ∃ f1, outW D cA o f1 h ∧ okR 100 100000 v ∧ N 0 < 8 ∧ f1 0 = (nI (N 0)).toInt64 ∧ ∃ ad2 g2, xW D cA ad2 g2 tt (amN' N) h ∧ xA Fc e0 ad2 (amN' N) ∧ ad2 0 0 = ad 0 0 ∧ (∀ t, t ≠ 17 → g2 t = amG g (N 0) v t) ∧ hwAll g2 (N 0 + 1)) ∨ (r = nI 1 ∧ (¬ okR 100 100000 v) ∧ (xW D cA ad g tt N h ∧ outW D cA o f0 h)) ∨ (r = nI 2 ∧ (okR 100 100000 v ∧ ¬ N 0 < 8) ∧ (xW D cA ad g tt N h ∧ outW D cA o f0 h))) (nI 1) H9 := by
        exact Or.inr (Or.inl (⟨rfl, h1, hX.keep (fun c j hv => hk9 _ (hX.lt hv)), hO.kept (hk9 _ hO.lt)⟩))
      refine W.widen (k := 9) (n := 56) (by omega) (by omega) ?_
      exact W.iret (v := (nI 1)) hx hb hr (fun t ht _ => ⟨⟨(nI 1), H9, rfl, hpost, ht⟩, hS.F ht⟩) hS.2.2 dL_addMachine_14
    · refine vx_catch (E := xISE) (name := xISE) hown [⟨0, 9, 12, 13⟩] ⟨0, 9, 15, 15⟩ [] (by rw [htab]; rfl) (fun z hz => by
            rcases List.mem_cons.mp hz with rfl | hz
            · exact Or.inr ⟨by decide, xIAE, hts _ q_cl_L_13, hNc.1⟩
            · exact absurd hz List.not_mem_nil) (by decide) (by decide) (hts _ q_cl_L_15) (hts _ q_ca_java_lang_IllegalStateException_java_lang_IllegalStateException) hc9 hv9 hcl9 ?_
      have hS := hS9
      refine lv_astore_n (lv' := [(3, .ref (q9)), (0, .ref (ad 0 0)), (1, .int (v)), (2, .ref (o))]) hx hb dL_addMachine_15 rfl hl (by decide) rfl (fun ls hl => ?_)
      refine lv_iconst (v := nI 2) hx hb dL_addMachine_16 (by decide) ?_
      have hpost : (fun r h => (r = nI 0 ∧ ∃ f1, outW D cA o f1 h ∧ okR 100 100000 v ∧ N 0 < 8 ∧ f1 0 = (nI (N 0)).toInt64 ∧ ∃ ad2 g2, xW D cA ad2 g2 tt (amN' N) h ∧ xA Fc e0 ad2 (amN' N) ∧ ad2 0 0 = ad 0 0 ∧ (∀ t, t ≠ 17 → g2 t = amG g (N 0) v t) ∧ hwAll g2 (N 0 + 1)) ∨ (r = nI 1 ∧ (¬ okR 100 100000 v) ∧ (xW D cA ad g tt N h ∧ outW D cA o f0 h)) ∨ (r = nI 2 ∧ (okR 100 100000 v ∧ ¬ N 0 < 8) ∧ (xW D cA ad g tt N h ∧ outW D cA o f0 h))) (nI 2) H9 := by
        exact Or.inr (Or.inr ((⟨rfl, h1, hX.keep (fun c j hv => hk9 _ (hX.lt hv)), hO.kept (hk9 _ hO.lt)⟩)))
      refine W.widen (k := 9) (n := 56) (by omega) (by omega) ?_
      exact W.iret (v := (nI 2)) hx hb hr (fun t ht _ => ⟨⟨(nI 2), H9, rfl, hpost, ht⟩, hS.F ht⟩) hS.2.2 dL_addMachine_17
  have hO1 := hO.kept (hk9 _ hO.lt hoF)
  refine lv_i2l (v := r_1.toInt64) hx hb dL_addMachine_7 rfl ?_
  refine xlast (D := D) hx hb hK hS 1 (hO1) hAo rfl (i := nI 0) (x := r_1.toInt64) (vp_in_nI (n := 0) (by omega) (by omega)) dL_addMachine_8 (fun H2 locs hU hS => ?_)
  rw [nI_clamp (n := 0) (by omega)] at hU
  refine lv_goto (tgt := 18) hx hb dL_addMachine_9 (by decide) ?_
  refine lv_iconst (v := nI 0) hx hb dL_addMachine_18 (by decide) ?_
  have hpost : (fun r h => (r = nI 0 ∧ ∃ f1, outW D cA o f1 h ∧ okR 100 100000 v ∧ N 0 < 8 ∧ f1 0 = (nI (N 0)).toInt64 ∧ ∃ ad2 g2, xW D cA ad2 g2 tt (amN' N) h ∧ xA Fc e0 ad2 (amN' N) ∧ ad2 0 0 = ad 0 0 ∧ (∀ t, t ≠ 17 → g2 t = amG g (N 0) v t) ∧ hwAll g2 (N 0 + 1)) ∨ (r = nI 1 ∧ (¬ okR 100 100000 v) ∧ (xW D cA ad g tt N h ∧ outW D cA o f0 h)) ∨ (r = nI 2 ∧ (okR 100 100000 v ∧ ¬ N 0 < 8) ∧ (xW D cA ad g tt N h ∧ outW D cA o f0 h))) (nI 0) H2 := by
    obtain ⟨p1, p2, hr, ad2, g2, hX2, hA2, p3, p4, p5⟩ := hP9
    exact Or.inl ⟨rfl, _, hU.1, p1, p2, (by rw [pk_uLs, hr]), ad2, g2, hX2.out hA2 hoF hU, hA2, p3, p4, p5⟩
  refine W.widen (k := 9) (n := 56) (by omega) (by omega) ?_
  exact W.iret (v := (nI 0)) hx hb hr (fun t ht _ => ⟨⟨(nI 0), H2, rfl, hpost, ht⟩, hS.F ht⟩) hS.2.2 dL_addMachine_19
set_option maxHeartbeats 4000000 in
set_option maxRecDepth 100000 in
/-- the law's call of setMinutes -/
theorem c_L_setMinutes (l : Launch) (D : va_G) (cA : Nat → ClassId) (e0 : Nat) (A : Nat → Prop) (H0 : Heap) (ad : Nat → Nat → Nat) (g : Nat → Nat → Int32) (tt : Nat → Int64) (N : Nat → Nat) (hX : xW D cA ad g tt N H0) (v w x : Int32) (Fc : Nat → Prop) (hF : ∀ q, Fc q → A q) (hA : xA Fc e0 ad N) (o : Nat) (f0 : Nat → Int64) (hO : outW D cA o f0 H0) (hAo : A o) (hoF : ¬ Fc o) (hl9 : l.stackTraces = false) : Met l yL_setMinutes w_L_setMinutes ({ frames := 7, cells := 1, slots := 6, locals := 141 } : Room) (xPn D cA e0 A H0 [.ref (ad 0 0), .int (v), .int (w), .int (x), .ref (o)]) (xQi (fun r h => (r = nI 0 ∧ ∃ f1, outW D cA o f1 h ∧ ((okP (N 0) v ∧ okP (N 0) w) ∧ v ≠ w ∧ okR 1 200 x) ∧ f1 0 = (wy g (plN v) (plN w)).toInt64 ∧ ∃ g2, xW D cA ad g2 tt N h ∧ (∀ k, k ≠ 17 → g2 k = va_up g 3 (swF (g 3) (plN v) (plN w) x) k) ∧ hwAll g2 (N 0)) ∨ (r = nI 1 ∧ (¬ (okP (N 0) v ∧ okP (N 0) w)) ∧ (xW D cA ad g tt N h ∧ outW D cA o f0 h)) ∨ (r = nI 2 ∧ ((okP (N 0) v ∧ okP (N 0) w) ∧ ¬ (v ≠ w ∧ okR 1 200 x)) ∧ (xW D cA ad g tt N h ∧ outW D cA o f0 h))) A) 1 6 (A) := by
  refine va_MetW (hh := [(0, 12, 15, 21), (0, 12, 19, 13)]) (cc := cL_setMinutes) (maxL := 6) (ret := (some .int)) (by decide) rfl ?_
  intro p e s m args below meth c s₁ B hml hv
  obtain ⟨rfl, hH, hE, hNc⟩ := hv
  subst hH
  have hx := B.exec
  have hb := B.bytes
  have hr := B.returns
  have hts := hE.1.all ([.ref (ad 0 0), .int (v), .int (w), .int (x), .ref (o)] : List Value).toArray
  have htab := vx_table (x := yL_setMinutes) B (hts _ q_co_L_setMinutes)
  have hown : s.vm.findClass RL = some m.cls := findClass_of_methodNamed B.named
  have hlocks := B.notSynchronized
  have hK := hE.2.1
  have hS : va_S A s.heap s.heap [] := va_S.rf
  have hl := lv_entry ([.ref (ad 0 0), .int (v), .int (w), .int (x), .ref (o)]) (n := 6) (Nat.le_of_ble_eq_true rfl)
  rw [lg_entry_eq]
  generalize (lg_sl ([.ref (ad 0 0), .int (v), .int (w), .int (x), .ref (o)]) ++ List.replicate (6 - (lg_sl ([.ref (ad 0 0), .int (v), .int (w), .int (x), .ref (o)])).length) Slot.unset).toArray = ls at hl ⊢
  have hl : lv_has ls 6 [(0, .ref (ad 0 0)), (1, .int (v)), (2, .int (w)), (3, .int (x)), (4, .ref (o))] := hl
  refine lv_aload hx hb dL_setMinutes_0 (lv_at hl 4 rfl) ?_
  refine lv_iconst (v := nI 0) hx hb dL_setMinutes_2 (by decide) ?_
  refine lv_aload_n hx hb dL_setMinutes_3 rfl (lv_at hl 0 rfl) ?_
  refine lv_iload_n hx hb dL_setMinutes_4 rfl (lv_at hl 1 rfl) ?_
  refine lv_iload_n hx hb dL_setMinutes_5 rfl (lv_at hl 2 rfl) ?_
  refine lv_iload_n hx hb dL_setMinutes_6 rfl (lv_at hl 3 rfl) ?_
  refine xcXi (vx_runV (As := [.int (v), .int (w), .int (x)]) (rest := [.int (nI 0), .ref (o)]) ⟨hx, hb, hml, hown, hts⟩ (c_X4_setMinutes l D cA e0 Fc s.heap ad g tt N hX v w x hA hl9) ⟨(callB_of 3 hts gi_X4_setMinutes rfl rfl rfl (hts _ q_ini_X4) (hts _ q_ml_L_17) hd_X4_setMinutes ⟨Nat.le_of_ble_eq_true rfl, Nat.le_of_ble_eq_true rfl⟩), hts _ q_im_X4_setMinutes, hts _ q_sel_X4_X4_setMinutes⟩ (xpVn hE hS hF (hX.main) rfl) rfl rfl hl.1 rfl (lv_room (Nat.le_of_ble_eq_true rfl)) dL_setMinutes_7 ⟨Nat.le_of_ble_eq_true rfl, Nat.le_of_ble_eq_true rfl⟩) hS hF (fun E9 ce9 q9 H9 locs9 hPX9 hz9 hk9 hS9 hc9 hv9 hcl9 => ?_) (fun r_1 H1 locs hP9 hz9 hk9 hS => ?_)
  · rcases hPX9 with ⟨rfl, h1⟩ | ⟨rfl, h1⟩
    · refine vx_catch (E := xIOB) (name := xIOB) hown [] ⟨0, 12, 15, 21⟩ [⟨0, 12, 19, 13⟩] (by rw [htab]; rfl) (fun z hz => absurd hz List.not_mem_nil) (by decide) (by decide) (hts _ q_cl_L_21) (hts _ q_ca_java_lang_IndexOutOfBoundsException_java_lang_IndexOutOfBoundsException) hc9 hv9 hcl9 ?_
      have hS := hS9
      refine lv_astore (lv' := [(5, .ref (q9)), (0, .ref (ad 0 0)), (1, .int (v)), (2, .int (w)), (3, .int (x)), (4, .ref (o))]) hx hb dL_setMinutes_15 hl (by decide) rfl (fun ls hl => ?_)
      refine lv_iconst (v := nI 1) hx hb dL_setMinutes_17 (by decide) ?_
      have hpost : (fun r h => (r = nI 0 ∧ ∃ f1, outW D cA o f1 h ∧ ((okP (N 0) v ∧ okP (N 0) w) ∧ v ≠ w ∧ okR 1 200 x) ∧ f1 0 = (wy g (plN v) (plN w)).toInt64 ∧ ∃ g2, xW D cA ad g2 tt N h ∧ (∀ k, k ≠ 17 → g2 k = va_up g 3 (swF (g 3) (plN v) (plN w) x) k) ∧ hwAll g2 (N 0)) ∨ (r = nI 1 ∧ (¬ (okP (N 0) v ∧ okP (N 0) w)) ∧ (xW D cA ad g tt N h ∧ outW D cA o f0 h)) ∨ (r = nI 2 ∧ ((okP (N 0) v ∧ okP (N 0) w) ∧ ¬ (v ≠ w ∧ okR 1 200 x)) ∧ (xW D cA ad g tt N h ∧ outW D cA o f0 h))) (nI 1) H9 := by
        exact Or.inr (Or.inl (⟨rfl, h1, hX.keep (fun c j hv => hk9 _ (hX.lt hv)), hO.kept (hk9 _ hO.lt)⟩))
      refine W.widen (k := 1) (n := 6) (by omega) (by omega) ?_
      exact W.iret (v := (nI 1)) hx hb hr (fun t ht _ => ⟨⟨(nI 1), H9, rfl, hpost, ht⟩, hS.F ht⟩) hS.2.2 dL_setMinutes_18
    · refine vx_catch (E := xIAE) (name := xIAE) hown [⟨0, 12, 15, 21⟩] ⟨0, 12, 19, 13⟩ [] (by rw [htab]; rfl) (fun z hz => by
            rcases List.mem_cons.mp hz with rfl | hz
            · exact Or.inr ⟨by decide, xIOB, hts _ q_cl_L_21, hNc.2.1⟩
            · exact absurd hz List.not_mem_nil) (by decide) (by decide) (hts _ q_cl_L_13) (hts _ q_ca_java_lang_IllegalArgumentException_java_lang_IllegalArgumentException) hc9 hv9 hcl9 ?_
      have hS := hS9
      refine lv_astore (lv' := [(5, .ref (q9)), (0, .ref (ad 0 0)), (1, .int (v)), (2, .int (w)), (3, .int (x)), (4, .ref (o))]) hx hb dL_setMinutes_19 hl (by decide) rfl (fun ls hl => ?_)
      refine lv_iconst (v := nI 2) hx hb dL_setMinutes_21 (by decide) ?_
      have hpost : (fun r h => (r = nI 0 ∧ ∃ f1, outW D cA o f1 h ∧ ((okP (N 0) v ∧ okP (N 0) w) ∧ v ≠ w ∧ okR 1 200 x) ∧ f1 0 = (wy g (plN v) (plN w)).toInt64 ∧ ∃ g2, xW D cA ad g2 tt N h ∧ (∀ k, k ≠ 17 → g2 k = va_up g 3 (swF (g 3) (plN v) (plN w) x) k) ∧ hwAll g2 (N 0)) ∨ (r = nI 1 ∧ (¬ (okP (N 0) v ∧ okP (N 0) w)) ∧ (xW D cA ad g tt N h ∧ outW D cA o f0 h)) ∨ (r = nI 2 ∧ ((okP (N 0) v ∧ okP (N 0) w) ∧ ¬ (v ≠ w ∧ okR 1 200 x)) ∧ (xW D cA ad g tt N h ∧ outW D cA o f0 h))) (nI 2) H9 := by
        exact Or.inr (Or.inr ((⟨rfl, h1, hX.keep (fun c j hv => hk9 _ (hX.lt hv)), hO.kept (hk9 _ hO.lt)⟩)))
      refine W.widen (k := 1) (n := 6) (by omega) (by omega) ?_
      exact W.iret (v := (nI 2)) hx hb hr (fun t ht _ => ⟨⟨(nI 2), H9, rfl, hpost, ht⟩, hS.F ht⟩) hS.2.2 dL_setMinutes_22
  have hO1 := hO.kept (hk9 _ hO.lt hoF)
  refine lv_i2l (v := r_1.toInt64) hx hb dL_setMinutes_10 rfl ?_
  refine xlast (D := D) hx hb hK hS 1 (hO1) hAo rfl (i := nI 0) (x := r_1.toInt64) (vp_in_nI (n := 0) (by omega) (by omega)) dL_setMinutes_11 (fun H2 locs hU hS => ?_)
  rw [nI_clamp (n := 0) (by omega)] at hU
  refine lv_goto (tgt := 23) hx hb dL_setMinutes_12 (by decide) ?_
  refine lv_iconst (v := nI 0) hx hb dL_setMinutes_23 (by decide) ?_
  have hpost : (fun r h => (r = nI 0 ∧ ∃ f1, outW D cA o f1 h ∧ ((okP (N 0) v ∧ okP (N 0) w) ∧ v ≠ w ∧ okR 1 200 x) ∧ f1 0 = (wy g (plN v) (plN w)).toInt64 ∧ ∃ g2, xW D cA ad g2 tt N h ∧ (∀ k, k ≠ 17 → g2 k = va_up g 3 (swF (g 3) (plN v) (plN w) x) k) ∧ hwAll g2 (N 0)) ∨ (r = nI 1 ∧ (¬ (okP (N 0) v ∧ okP (N 0) w)) ∧ (xW D cA ad g tt N h ∧ outW D cA o f0 h)) ∨ (r = nI 2 ∧ ((okP (N 0) v ∧ okP (N 0) w) ∧ ¬ (v ≠ w ∧ okR 1 200 x)) ∧ (xW D cA ad g tt N h ∧ outW D cA o f0 h))) (nI 0) H2 := by
    obtain ⟨p1, hr, g2, hX2, p2, p3⟩ := hP9
    exact Or.inl ⟨rfl, _, hU.1, p1, (by rw [pk_uLs, hr]), g2, hX2.out hA hoF hU, p2, p3⟩
  refine W.widen (k := 1) (n := 6) (by omega) (by omega) ?_
  exact W.iret (v := (nI 0)) hx hb hr (fun t ht _ => ⟨⟨(nI 0), H2, rfl, hpost, ht⟩, hS.F ht⟩) hS.2.2 dL_setMinutes_24
set_option maxHeartbeats 4000000 in
set_option maxRecDepth 100000 in
/-- the law's call of setSlot -/
theorem c_L_setSlot (l : Launch) (D : va_G) (cA : Nat → ClassId) (e0 : Nat) (A : Nat → Prop) (H0 : Heap) (ad : Nat → Nat → Nat) (g : Nat → Nat → Int32) (tt : Nat → Int64) (N : Nat → Nat) (hX : xW D cA ad g tt N H0) (v w x y : Int32) (Fc : Nat → Prop) (hF : ∀ q, Fc q → A q) (hA : xA Fc e0 ad N) (o : Nat) (f0 : Nat → Int64) (hO : outW D cA o f0 H0) (hAo : A o) (hoF : ¬ Fc o) (hl9 : l.stackTraces = false) : Met l yL_setSlot w_L_setSlot ({ frames := 9, cells := 4, slots := 24, locals := 170 } : Room) (xPn D cA e0 A H0 [.ref (ad 0 0), .int (v), .int (w), .int (x), .int (y), .ref (o)]) (xQi (fun r h => (r = nI 0 ∧ ∃ f1, outW D cA o f1 h ∧ (okS (N 0) v w ∧ okR 0 30 x ∧ okR 0 20 y) ∧ f1 0 = (g 4 (6 * cl v + cl w)).toInt64 ∧ xW D cA ad (ssF g (6 * cl v + cl w) x y) tt N h) ∨ (r = nI 1 ∧ (¬ okS (N 0) v w) ∧ (xW D cA ad g tt N h ∧ outW D cA o f0 h)) ∨ (r = nI 2 ∧ (okS (N 0) v w ∧ ¬ (okR 0 30 x ∧ okR 0 20 y)) ∧ (xW D cA ad g tt N h ∧ outW D cA o f0 h))) A) 4 24 (A) := by
  refine va_MetW (hh := [(0, 14, 17, 21), (0, 14, 21, 13)]) (cc := cL_setSlot) (maxL := 7) (ret := (some .int)) (by decide) rfl ?_
  intro p e s m args below meth c s₁ B hml hv
  obtain ⟨rfl, hH, hE, hNc⟩ := hv
  subst hH
  have hx := B.exec
  have hb := B.bytes
  have hr := B.returns
  have hts := hE.1.all ([.ref (ad 0 0), .int (v), .int (w), .int (x), .int (y), .ref (o)] : List Value).toArray
  have htab := vx_table (x := yL_setSlot) B (hts _ q_co_L_setSlot)
  have hown : s.vm.findClass RL = some m.cls := findClass_of_methodNamed B.named
  have hlocks := B.notSynchronized
  have hK := hE.2.1
  have hS : va_S A s.heap s.heap [] := va_S.rf
  have hl := lv_entry ([.ref (ad 0 0), .int (v), .int (w), .int (x), .int (y), .ref (o)]) (n := 7) (Nat.le_of_ble_eq_true rfl)
  rw [lg_entry_eq]
  generalize (lg_sl ([.ref (ad 0 0), .int (v), .int (w), .int (x), .int (y), .ref (o)]) ++ List.replicate (7 - (lg_sl ([.ref (ad 0 0), .int (v), .int (w), .int (x), .int (y), .ref (o)])).length) Slot.unset).toArray = ls at hl ⊢
  have hl : lv_has ls 7 [(0, .ref (ad 0 0)), (1, .int (v)), (2, .int (w)), (3, .int (x)), (4, .int (y)), (5, .ref (o))] := hl
  refine lv_aload hx hb dL_setSlot_0 (lv_at hl 5 rfl) ?_
  refine lv_iconst (v := nI 0) hx hb dL_setSlot_2 (by decide) ?_
  refine lv_aload_n hx hb dL_setSlot_3 rfl (lv_at hl 0 rfl) ?_
  refine lv_iload_n hx hb dL_setSlot_4 rfl (lv_at hl 1 rfl) ?_
  refine lv_iload_n hx hb dL_setSlot_5 rfl (lv_at hl 2 rfl) ?_
  refine lv_iload_n hx hb dL_setSlot_6 rfl (lv_at hl 3 rfl) ?_
  refine lv_iload hx hb dL_setSlot_7 (lv_at hl 4 rfl) ?_
  refine xcXi (vx_runV (As := [.int (v), .int (w), .int (x), .int (y)]) (rest := [.int (nI 0), .ref (o)]) ⟨hx, hb, hml, hown, hts⟩ (c_X4_setSlot l D cA e0 Fc s.heap ad g tt N hX v w x y hA hl9) ⟨(callB_of 4 hts gi_X4_setSlot rfl rfl rfl (hts _ q_ini_X4) (hts _ q_ml_L_23) hd_X4_setSlot ⟨Nat.le_of_ble_eq_true rfl, Nat.le_of_ble_eq_true rfl⟩), hts _ q_im_X4_setSlot, hts _ q_sel_X4_X4_setSlot⟩ (xpVn hE hS hF (hX.main) rfl) rfl rfl hl.1 rfl (lv_room (Nat.le_of_ble_eq_true rfl)) dL_setSlot_9 ⟨Nat.le_of_ble_eq_true rfl, Nat.le_of_ble_eq_true rfl⟩) hS hF (fun E9 ce9 q9 H9 locs9 hPX9 hz9 hk9 hS9 hc9 hv9 hcl9 => ?_) (fun r_1 H1 locs hP9 hz9 hk9 hS => ?_)
  · rcases hPX9 with ⟨rfl, h1⟩ | ⟨rfl, h1⟩
    · refine vx_catch (E := xIOB) (name := xIOB) hown [] ⟨0, 14, 17, 21⟩ [⟨0, 14, 21, 13⟩] (by rw [htab]; rfl) (fun z hz => absurd hz List.not_mem_nil) (by decide) (by decide) (hts _ q_cl_L_21) (hts _ q_ca_java_lang_IndexOutOfBoundsException_java_lang_IndexOutOfBoundsException) hc9 hv9 hcl9 ?_
      have hS := hS9
      refine lv_astore (lv' := [(6, .ref (q9)), (0, .ref (ad 0 0)), (1, .int (v)), (2, .int (w)), (3, .int (x)), (4, .int (y)), (5, .ref (o))]) hx hb dL_setSlot_17 hl (by decide) rfl (fun ls hl => ?_)
      refine lv_iconst (v := nI 1) hx hb dL_setSlot_19 (by decide) ?_
      have hpost : (fun r h => (r = nI 0 ∧ ∃ f1, outW D cA o f1 h ∧ (okS (N 0) v w ∧ okR 0 30 x ∧ okR 0 20 y) ∧ f1 0 = (g 4 (6 * cl v + cl w)).toInt64 ∧ xW D cA ad (ssF g (6 * cl v + cl w) x y) tt N h) ∨ (r = nI 1 ∧ (¬ okS (N 0) v w) ∧ (xW D cA ad g tt N h ∧ outW D cA o f0 h)) ∨ (r = nI 2 ∧ (okS (N 0) v w ∧ ¬ (okR 0 30 x ∧ okR 0 20 y)) ∧ (xW D cA ad g tt N h ∧ outW D cA o f0 h))) (nI 1) H9 := by
        exact Or.inr (Or.inl (⟨rfl, h1, hX.keep (fun c j hv => hk9 _ (hX.lt hv)), hO.kept (hk9 _ hO.lt)⟩))
      refine W.widen (k := 4) (n := 24) (by omega) (by omega) ?_
      exact W.iret (v := (nI 1)) hx hb hr (fun t ht _ => ⟨⟨(nI 1), H9, rfl, hpost, ht⟩, hS.F ht⟩) hS.2.2 dL_setSlot_20
    · refine vx_catch (E := xIAE) (name := xIAE) hown [⟨0, 14, 17, 21⟩] ⟨0, 14, 21, 13⟩ [] (by rw [htab]; rfl) (fun z hz => by
            rcases List.mem_cons.mp hz with rfl | hz
            · exact Or.inr ⟨by decide, xIOB, hts _ q_cl_L_21, hNc.2.1⟩
            · exact absurd hz List.not_mem_nil) (by decide) (by decide) (hts _ q_cl_L_13) (hts _ q_ca_java_lang_IllegalArgumentException_java_lang_IllegalArgumentException) hc9 hv9 hcl9 ?_
      have hS := hS9
      refine lv_astore (lv' := [(6, .ref (q9)), (0, .ref (ad 0 0)), (1, .int (v)), (2, .int (w)), (3, .int (x)), (4, .int (y)), (5, .ref (o))]) hx hb dL_setSlot_21 hl (by decide) rfl (fun ls hl => ?_)
      refine lv_iconst (v := nI 2) hx hb dL_setSlot_23 (by decide) ?_
      have hpost : (fun r h => (r = nI 0 ∧ ∃ f1, outW D cA o f1 h ∧ (okS (N 0) v w ∧ okR 0 30 x ∧ okR 0 20 y) ∧ f1 0 = (g 4 (6 * cl v + cl w)).toInt64 ∧ xW D cA ad (ssF g (6 * cl v + cl w) x y) tt N h) ∨ (r = nI 1 ∧ (¬ okS (N 0) v w) ∧ (xW D cA ad g tt N h ∧ outW D cA o f0 h)) ∨ (r = nI 2 ∧ (okS (N 0) v w ∧ ¬ (okR 0 30 x ∧ okR 0 20 y)) ∧ (xW D cA ad g tt N h ∧ outW D cA o f0 h))) (nI 2) H9 := by
        exact Or.inr (Or.inr ((⟨rfl, h1, hX.keep (fun c j hv => hk9 _ (hX.lt hv)), hO.kept (hk9 _ hO.lt)⟩)))
      refine W.widen (k := 4) (n := 24) (by omega) (by omega) ?_
      exact W.iret (v := (nI 2)) hx hb hr (fun t ht _ => ⟨⟨(nI 2), H9, rfl, hpost, ht⟩, hS.F ht⟩) hS.2.2 dL_setSlot_24
  have hO1 := hO.kept (hk9 _ hO.lt hoF)
  refine lv_i2l (v := r_1.toInt64) hx hb dL_setSlot_12 rfl ?_
  refine xlast (D := D) hx hb hK hS 1 (hO1) hAo rfl (i := nI 0) (x := r_1.toInt64) (vp_in_nI (n := 0) (by omega) (by omega)) dL_setSlot_13 (fun H2 locs hU hS => ?_)
  rw [nI_clamp (n := 0) (by omega)] at hU
  refine lv_goto (tgt := 25) hx hb dL_setSlot_14 (by decide) ?_
  refine lv_iconst (v := nI 0) hx hb dL_setSlot_25 (by decide) ?_
  have hpost : (fun r h => (r = nI 0 ∧ ∃ f1, outW D cA o f1 h ∧ (okS (N 0) v w ∧ okR 0 30 x ∧ okR 0 20 y) ∧ f1 0 = (g 4 (6 * cl v + cl w)).toInt64 ∧ xW D cA ad (ssF g (6 * cl v + cl w) x y) tt N h) ∨ (r = nI 1 ∧ (¬ okS (N 0) v w) ∧ (xW D cA ad g tt N h ∧ outW D cA o f0 h)) ∨ (r = nI 2 ∧ (okS (N 0) v w ∧ ¬ (okR 0 30 x ∧ okR 0 20 y)) ∧ (xW D cA ad g tt N h ∧ outW D cA o f0 h))) (nI 0) H2 := by
    obtain ⟨p1, hr, hX2⟩ := hP9
    exact Or.inl ⟨rfl, _, hU.1, p1, (by rw [pk_uLs, hr]), hX2.out hA hoF hU⟩
  refine W.widen (k := 4) (n := 24) (by omega) (by omega) ?_
  exact W.iret (v := (nI 0)) hx hb hr (fun t ht _ => ⟨⟨(nI 0), H2, rfl, hpost, ht⟩, hS.F ht⟩) hS.2.2 dL_setSlot_26
set_option maxHeartbeats 4000000 in
set_option maxRecDepth 100000 in
/-- the law's call of planPrice -/
theorem c_L_planPrice (l : Launch) (D : va_G) (cA : Nat → ClassId) (e0 : Nat) (A : Nat → Prop) (H0 : Heap) (ad : Nat → Nat → Nat) (g : Nat → Nat → Int32) (tt : Nat → Int64) (N : Nat → Nat) (hX : xW D cA ad g tt N H0) (v w x y : Int32) (Fc : Nat → Prop) (hF : ∀ q, Fc q → A q) (hA : xA Fc e0 ad N) (hAn : ∀ q, H0.size ≤ q → Fc q) (o : Nat) (f0 : Nat → Int64) (hO : outW D cA o f0 H0) (hAo : A o) (hoF : ¬ Fc o) (hl9 : l.stackTraces = false) : Met l yL_planPrice w_L_planPrice ({ frames := 9, cells := 4, slots := 37, locals := 196 } : Room) (xPn D cA e0 A H0 [.ref (ad 0 0), .int (v), .int (w), .int (x), .int (y), .ref (o)]) (xQi (fun r h => (r = nI 0 ∧ ∃ f1, outW D cA o f1 h ∧ (okS (N 0) v w ∧ (ouI x (g 13 0) (nI 999) = 0 ∧ okR 1 1000 y)) ∧ (x = g 13 0 ∨ N 1 < 20) ∧ ((x = g 13 0 ∧ f1 0 = (nI (N 1)).toInt64 ∧ xW D cA ad (va_up g 6 (upd (g 6) (6 * cl v + cl w) y)) tt N h) ∨ (¬ x = g 13 0 ∧ f1 0 = (nI (N 1 + 1)).toInt64 ∧ ∃ q d2 k, xW D cA (plA ad (N 1) q d2) (plG g (N 1) x (nI (6 * cl v + cl w)) y) tt (plN' N k) h ∧ xA Fc e0 (plA ad (N 1) q d2) (plN' N k)))) ∨ (r = nI 1 ∧ (¬ okS (N 0) v w) ∧ (xW D cA ad g tt N h ∧ outW D cA o f0 h)) ∨ (r = nI 2 ∧ (okS (N 0) v w ∧ ¬ (ouI x (g 13 0) (nI 999) = 0 ∧ okR 1 1000 y)) ∧ (xW D cA ad g tt N h ∧ outW D cA o f0 h)) ∨ (r = nI 3 ∧ ((okS (N 0) v w ∧ (ouI x (g 13 0) (nI 999) = 0 ∧ okR 1 1000 y)) ∧ ¬ (x = g 13 0 ∨ N 1 < 20)) ∧ (xW D cA ad g tt N h ∧ outW D cA o f0 h))) A) 4 37 (A) := by
  refine va_MetW (hh := [(0, 14, 17, 21), (0, 14, 21, 13), (0, 14, 25, 15)]) (cc := cL_planPrice) (maxL := 7) (ret := (some .int)) (by decide) rfl ?_
  intro p e s m args below meth c s₁ B hml hv
  obtain ⟨rfl, hH, hE, hNc⟩ := hv
  subst hH
  have hx := B.exec
  have hb := B.bytes
  have hr := B.returns
  have hts := hE.1.all ([.ref (ad 0 0), .int (v), .int (w), .int (x), .int (y), .ref (o)] : List Value).toArray
  have htab := vx_table (x := yL_planPrice) B (hts _ q_co_L_planPrice)
  have hown : s.vm.findClass RL = some m.cls := findClass_of_methodNamed B.named
  have hlocks := B.notSynchronized
  have hK := hE.2.1
  have hS : va_S A s.heap s.heap [] := va_S.rf
  have hl := lv_entry ([.ref (ad 0 0), .int (v), .int (w), .int (x), .int (y), .ref (o)]) (n := 7) (Nat.le_of_ble_eq_true rfl)
  rw [lg_entry_eq]
  generalize (lg_sl ([.ref (ad 0 0), .int (v), .int (w), .int (x), .int (y), .ref (o)]) ++ List.replicate (7 - (lg_sl ([.ref (ad 0 0), .int (v), .int (w), .int (x), .int (y), .ref (o)])).length) Slot.unset).toArray = ls at hl ⊢
  have hl : lv_has ls 7 [(0, .ref (ad 0 0)), (1, .int (v)), (2, .int (w)), (3, .int (x)), (4, .int (y)), (5, .ref (o))] := hl
  refine lv_aload hx hb dL_planPrice_0 (lv_at hl 5 rfl) ?_
  refine lv_iconst (v := nI 0) hx hb dL_planPrice_2 (by decide) ?_
  refine lv_aload_n hx hb dL_planPrice_3 rfl (lv_at hl 0 rfl) ?_
  refine lv_iload_n hx hb dL_planPrice_4 rfl (lv_at hl 1 rfl) ?_
  refine lv_iload_n hx hb dL_planPrice_5 rfl (lv_at hl 2 rfl) ?_
  refine lv_iload_n hx hb dL_planPrice_6 rfl (lv_at hl 3 rfl) ?_
  refine lv_iload hx hb dL_planPrice_7 (lv_at hl 4 rfl) ?_
  refine xcXi (vx_runV (As := [.int (v), .int (w), .int (x), .int (y)]) (rest := [.int (nI 0), .ref (o)]) ⟨hx, hb, hml, hown, hts⟩ (c_X4_planPrice l D cA e0 Fc s.heap ad g tt N hX v w x y hA hAn hl9) ⟨(callB_of 4 hts gi_X4_planPrice rfl rfl rfl (hts _ q_ini_X4) (hts _ q_ml_L_27) hd_X4_planPrice ⟨Nat.le_of_ble_eq_true rfl, Nat.le_of_ble_eq_true rfl⟩), hts _ q_im_X4_planPrice, hts _ q_sel_X4_X4_planPrice⟩ (xpVn hE hS hF (hX.main) rfl) rfl rfl hl.1 rfl (lv_room (Nat.le_of_ble_eq_true rfl)) dL_planPrice_9 ⟨Nat.le_of_ble_eq_true rfl, Nat.le_of_ble_eq_true rfl⟩) hS hF (fun E9 ce9 q9 H9 locs9 hPX9 hz9 hk9 hS9 hc9 hv9 hcl9 => ?_) (fun r_1 H1 locs hP9 hz9 hk9 hS => ?_)
  · rcases hPX9 with ⟨rfl, h1⟩ | ⟨rfl, h1⟩ | ⟨rfl, h1⟩
    · refine vx_catch (E := xIOB) (name := xIOB) hown [] ⟨0, 14, 17, 21⟩ [⟨0, 14, 21, 13⟩, ⟨0, 14, 25, 15⟩] (by rw [htab]; rfl) (fun z hz => absurd hz List.not_mem_nil) (by decide) (by decide) (hts _ q_cl_L_21) (hts _ q_ca_java_lang_IndexOutOfBoundsException_java_lang_IndexOutOfBoundsException) hc9 hv9 hcl9 ?_
      have hS := hS9
      refine lv_astore (lv' := [(6, .ref (q9)), (0, .ref (ad 0 0)), (1, .int (v)), (2, .int (w)), (3, .int (x)), (4, .int (y)), (5, .ref (o))]) hx hb dL_planPrice_17 hl (by decide) rfl (fun ls hl => ?_)
      refine lv_iconst (v := nI 1) hx hb dL_planPrice_19 (by decide) ?_
      have hpost : (fun r h => (r = nI 0 ∧ ∃ f1, outW D cA o f1 h ∧ (okS (N 0) v w ∧ (ouI x (g 13 0) (nI 999) = 0 ∧ okR 1 1000 y)) ∧ (x = g 13 0 ∨ N 1 < 20) ∧ ((x = g 13 0 ∧ f1 0 = (nI (N 1)).toInt64 ∧ xW D cA ad (va_up g 6 (upd (g 6) (6 * cl v + cl w) y)) tt N h) ∨ (¬ x = g 13 0 ∧ f1 0 = (nI (N 1 + 1)).toInt64 ∧ ∃ q d2 k, xW D cA (plA ad (N 1) q d2) (plG g (N 1) x (nI (6 * cl v + cl w)) y) tt (plN' N k) h ∧ xA Fc e0 (plA ad (N 1) q d2) (plN' N k)))) ∨ (r = nI 1 ∧ (¬ okS (N 0) v w) ∧ (xW D cA ad g tt N h ∧ outW D cA o f0 h)) ∨ (r = nI 2 ∧ (okS (N 0) v w ∧ ¬ (ouI x (g 13 0) (nI 999) = 0 ∧ okR 1 1000 y)) ∧ (xW D cA ad g tt N h ∧ outW D cA o f0 h)) ∨ (r = nI 3 ∧ ((okS (N 0) v w ∧ (ouI x (g 13 0) (nI 999) = 0 ∧ okR 1 1000 y)) ∧ ¬ (x = g 13 0 ∨ N 1 < 20)) ∧ (xW D cA ad g tt N h ∧ outW D cA o f0 h))) (nI 1) H9 := by
        exact Or.inr (Or.inl (⟨rfl, h1, hX.keep (fun c j hv => hk9 _ (hX.lt hv)), hO.kept (hk9 _ hO.lt)⟩))
      refine W.widen (k := 4) (n := 37) (by omega) (by omega) ?_
      exact W.iret (v := (nI 1)) hx hb hr (fun t ht _ => ⟨⟨(nI 1), H9, rfl, hpost, ht⟩, hS.F ht⟩) hS.2.2 dL_planPrice_20
    · refine vx_catch (E := xIAE) (name := xIAE) hown [⟨0, 14, 17, 21⟩] ⟨0, 14, 21, 13⟩ [⟨0, 14, 25, 15⟩] (by rw [htab]; rfl) (fun z hz => by
            rcases List.mem_cons.mp hz with rfl | hz
            · exact Or.inr ⟨by decide, xIOB, hts _ q_cl_L_21, hNc.2.1⟩
            · exact absurd hz List.not_mem_nil) (by decide) (by decide) (hts _ q_cl_L_13) (hts _ q_ca_java_lang_IllegalArgumentException_java_lang_IllegalArgumentException) hc9 hv9 hcl9 ?_
      have hS := hS9
      refine lv_astore (lv' := [(6, .ref (q9)), (0, .ref (ad 0 0)), (1, .int (v)), (2, .int (w)), (3, .int (x)), (4, .int (y)), (5, .ref (o))]) hx hb dL_planPrice_21 hl (by decide) rfl (fun ls hl => ?_)
      refine lv_iconst (v := nI 2) hx hb dL_planPrice_23 (by decide) ?_
      have hpost : (fun r h => (r = nI 0 ∧ ∃ f1, outW D cA o f1 h ∧ (okS (N 0) v w ∧ (ouI x (g 13 0) (nI 999) = 0 ∧ okR 1 1000 y)) ∧ (x = g 13 0 ∨ N 1 < 20) ∧ ((x = g 13 0 ∧ f1 0 = (nI (N 1)).toInt64 ∧ xW D cA ad (va_up g 6 (upd (g 6) (6 * cl v + cl w) y)) tt N h) ∨ (¬ x = g 13 0 ∧ f1 0 = (nI (N 1 + 1)).toInt64 ∧ ∃ q d2 k, xW D cA (plA ad (N 1) q d2) (plG g (N 1) x (nI (6 * cl v + cl w)) y) tt (plN' N k) h ∧ xA Fc e0 (plA ad (N 1) q d2) (plN' N k)))) ∨ (r = nI 1 ∧ (¬ okS (N 0) v w) ∧ (xW D cA ad g tt N h ∧ outW D cA o f0 h)) ∨ (r = nI 2 ∧ (okS (N 0) v w ∧ ¬ (ouI x (g 13 0) (nI 999) = 0 ∧ okR 1 1000 y)) ∧ (xW D cA ad g tt N h ∧ outW D cA o f0 h)) ∨ (r = nI 3 ∧ ((okS (N 0) v w ∧ (ouI x (g 13 0) (nI 999) = 0 ∧ okR 1 1000 y)) ∧ ¬ (x = g 13 0 ∨ N 1 < 20)) ∧ (xW D cA ad g tt N h ∧ outW D cA o f0 h))) (nI 2) H9 := by
        exact Or.inr (Or.inr (Or.inl (⟨rfl, h1, hX.keep (fun c j hv => hk9 _ (hX.lt hv)), hO.kept (hk9 _ hO.lt)⟩)))
      refine W.widen (k := 4) (n := 37) (by omega) (by omega) ?_
      exact W.iret (v := (nI 2)) hx hb hr (fun t ht _ => ⟨⟨(nI 2), H9, rfl, hpost, ht⟩, hS.F ht⟩) hS.2.2 dL_planPrice_24
    · refine vx_catch (E := xISE) (name := xISE) hown [⟨0, 14, 17, 21⟩, ⟨0, 14, 21, 13⟩] ⟨0, 14, 25, 15⟩ [] (by rw [htab]; rfl) (fun z hz => by
            rcases List.mem_cons.mp hz with rfl | hz
            · exact Or.inr ⟨by decide, xIOB, hts _ q_cl_L_21, hNc.2.2.1⟩
            · rcases List.mem_cons.mp hz with rfl | hz
              · exact Or.inr ⟨by decide, xIAE, hts _ q_cl_L_13, hNc.1⟩
              · exact absurd hz List.not_mem_nil) (by decide) (by decide) (hts _ q_cl_L_15) (hts _ q_ca_java_lang_IllegalStateException_java_lang_IllegalStateException) hc9 hv9 hcl9 ?_
      have hS := hS9
      refine lv_astore (lv' := [(6, .ref (q9)), (0, .ref (ad 0 0)), (1, .int (v)), (2, .int (w)), (3, .int (x)), (4, .int (y)), (5, .ref (o))]) hx hb dL_planPrice_25 hl (by decide) rfl (fun ls hl => ?_)
      refine lv_iconst (v := nI 3) hx hb dL_planPrice_27 (by decide) ?_
      have hpost : (fun r h => (r = nI 0 ∧ ∃ f1, outW D cA o f1 h ∧ (okS (N 0) v w ∧ (ouI x (g 13 0) (nI 999) = 0 ∧ okR 1 1000 y)) ∧ (x = g 13 0 ∨ N 1 < 20) ∧ ((x = g 13 0 ∧ f1 0 = (nI (N 1)).toInt64 ∧ xW D cA ad (va_up g 6 (upd (g 6) (6 * cl v + cl w) y)) tt N h) ∨ (¬ x = g 13 0 ∧ f1 0 = (nI (N 1 + 1)).toInt64 ∧ ∃ q d2 k, xW D cA (plA ad (N 1) q d2) (plG g (N 1) x (nI (6 * cl v + cl w)) y) tt (plN' N k) h ∧ xA Fc e0 (plA ad (N 1) q d2) (plN' N k)))) ∨ (r = nI 1 ∧ (¬ okS (N 0) v w) ∧ (xW D cA ad g tt N h ∧ outW D cA o f0 h)) ∨ (r = nI 2 ∧ (okS (N 0) v w ∧ ¬ (ouI x (g 13 0) (nI 999) = 0 ∧ okR 1 1000 y)) ∧ (xW D cA ad g tt N h ∧ outW D cA o f0 h)) ∨ (r = nI 3 ∧ ((okS (N 0) v w ∧ (ouI x (g 13 0) (nI 999) = 0 ∧ okR 1 1000 y)) ∧ ¬ (x = g 13 0 ∨ N 1 < 20)) ∧ (xW D cA ad g tt N h ∧ outW D cA o f0 h))) (nI 3) H9 := by
        exact Or.inr (Or.inr (Or.inr ((⟨rfl, h1, hX.keep (fun c j hv => hk9 _ (hX.lt hv)), hO.kept (hk9 _ hO.lt)⟩))))
      refine W.widen (k := 4) (n := 37) (by omega) (by omega) ?_
      exact W.iret (v := (nI 3)) hx hb hr (fun t ht _ => ⟨⟨(nI 3), H9, rfl, hpost, ht⟩, hS.F ht⟩) hS.2.2 dL_planPrice_28
  have hO1 := hO.kept (hk9 _ hO.lt hoF)
  refine lv_i2l (v := r_1.toInt64) hx hb dL_planPrice_12 rfl ?_
  refine xlast (D := D) hx hb hK hS 1 (hO1) hAo rfl (i := nI 0) (x := r_1.toInt64) (vp_in_nI (n := 0) (by omega) (by omega)) dL_planPrice_13 (fun H2 locs hU hS => ?_)
  rw [nI_clamp (n := 0) (by omega)] at hU
  refine lv_goto (tgt := 29) hx hb dL_planPrice_14 (by decide) ?_
  refine lv_iconst (v := nI 0) hx hb dL_planPrice_29 (by decide) ?_
  have hpost : (fun r h => (r = nI 0 ∧ ∃ f1, outW D cA o f1 h ∧ (okS (N 0) v w ∧ (ouI x (g 13 0) (nI 999) = 0 ∧ okR 1 1000 y)) ∧ (x = g 13 0 ∨ N 1 < 20) ∧ ((x = g 13 0 ∧ f1 0 = (nI (N 1)).toInt64 ∧ xW D cA ad (va_up g 6 (upd (g 6) (6 * cl v + cl w) y)) tt N h) ∨ (¬ x = g 13 0 ∧ f1 0 = (nI (N 1 + 1)).toInt64 ∧ ∃ q d2 k, xW D cA (plA ad (N 1) q d2) (plG g (N 1) x (nI (6 * cl v + cl w)) y) tt (plN' N k) h ∧ xA Fc e0 (plA ad (N 1) q d2) (plN' N k)))) ∨ (r = nI 1 ∧ (¬ okS (N 0) v w) ∧ (xW D cA ad g tt N h ∧ outW D cA o f0 h)) ∨ (r = nI 2 ∧ (okS (N 0) v w ∧ ¬ (ouI x (g 13 0) (nI 999) = 0 ∧ okR 1 1000 y)) ∧ (xW D cA ad g tt N h ∧ outW D cA o f0 h)) ∨ (r = nI 3 ∧ ((okS (N 0) v w ∧ (ouI x (g 13 0) (nI 999) = 0 ∧ okR 1 1000 y)) ∧ ¬ (x = g 13 0 ∨ N 1 < 20)) ∧ (xW D cA ad g tt N h ∧ outW D cA o f0 h))) (nI 0) H2 := by
    obtain ⟨p1, p2, hq⟩ := hP9
    rcases hq with ⟨p3, hr, hX2⟩ | ⟨p3, hr, q, d2, kk, hX2, hA2⟩
    · exact Or.inl ⟨rfl, _, hU.1, p1, p2, Or.inl ⟨p3, by rw [pk_uLs, hr], hX2.out hA hoF hU⟩⟩
    · exact Or.inl ⟨rfl, _, hU.1, p1, p2, Or.inr ⟨p3, by rw [pk_uLs, hr], q, d2, kk, hX2.out hA2 hoF hU, hA2⟩⟩
  refine W.widen (k := 4) (n := 37) (by omega) (by omega) ?_
  exact W.iret (v := (nI 0)) hx hb hr (fun t ht _ => ⟨⟨(nI 0), H2, rfl, hpost, ht⟩, hS.F ht⟩) hS.2.2 dL_planPrice_30
set_option maxHeartbeats 4000000 in
set_option maxRecDepth 100000 in
/-- the law's call of slot -/
theorem c_L_slot (l : Launch) (D : va_G) (cA : Nat → ClassId) (e0 : Nat) (A : Nat → Prop) (H0 : Heap) (ad : Nat → Nat → Nat) (g : Nat → Nat → Int32) (tt : Nat → Int64) (N : Nat → Nat) (hX : xW D cA ad g tt N H0) (v w x : Int32) (Fc : Nat → Prop) (hF : ∀ q, Fc q → A q) (hA : xA Fc e0 ad N) (o : Nat) (f0 : Nat → Int64) (hO : outW D cA o f0 H0) (hAo : A o) (hoF : ¬ Fc o) (hl9 : l.stackTraces = false) : Met l yL_slot w_L_slot ({ frames := 9, cells := 3, slots := 18, locals := 168 } : Room) (xPn D cA e0 A H0 [.ref (ad 0 0), .int (v), .int (w), .int (x), .ref (o)]) (xQi (fun r h => (r = nI 0 ∧ ∃ f1, outW D cA o f1 h ∧ (okS (N 0) v w ∧ okK 5 x) ∧ f1 0 = (g (4 + cl x) (6 * cl v + cl w)).toInt64 ∧ xW D cA ad g tt N h) ∨ (r = nI 1 ∧ (¬ (okS (N 0) v w ∧ okK 5 x)) ∧ (xW D cA ad g tt N h ∧ outW D cA o f0 h))) A) 3 18 (A) := by
  refine va_MetW (hh := [(0, 12, 15, 21)]) (cc := cL_slot) (maxL := 6) (ret := (some .int)) (by decide) rfl ?_
  intro p e s m args below meth c s₁ B hml hv
  obtain ⟨rfl, hH, hE, hNc⟩ := hv
  subst hH
  have hx := B.exec
  have hb := B.bytes
  have hr := B.returns
  have hts := hE.1.all ([.ref (ad 0 0), .int (v), .int (w), .int (x), .ref (o)] : List Value).toArray
  have htab := vx_table (x := yL_slot) B (hts _ q_co_L_slot)
  have hown : s.vm.findClass RL = some m.cls := findClass_of_methodNamed B.named
  have hlocks := B.notSynchronized
  have hK := hE.2.1
  have hS : va_S A s.heap s.heap [] := va_S.rf
  have hl := lv_entry ([.ref (ad 0 0), .int (v), .int (w), .int (x), .ref (o)]) (n := 6) (Nat.le_of_ble_eq_true rfl)
  rw [lg_entry_eq]
  generalize (lg_sl ([.ref (ad 0 0), .int (v), .int (w), .int (x), .ref (o)]) ++ List.replicate (6 - (lg_sl ([.ref (ad 0 0), .int (v), .int (w), .int (x), .ref (o)])).length) Slot.unset).toArray = ls at hl ⊢
  have hl : lv_has ls 6 [(0, .ref (ad 0 0)), (1, .int (v)), (2, .int (w)), (3, .int (x)), (4, .ref (o))] := hl
  refine lv_aload hx hb dL_slot_0 (lv_at hl 4 rfl) ?_
  refine lv_iconst (v := nI 0) hx hb dL_slot_2 (by decide) ?_
  refine lv_aload_n hx hb dL_slot_3 rfl (lv_at hl 0 rfl) ?_
  refine lv_iload_n hx hb dL_slot_4 rfl (lv_at hl 1 rfl) ?_
  refine lv_iload_n hx hb dL_slot_5 rfl (lv_at hl 2 rfl) ?_
  refine lv_iload_n hx hb dL_slot_6 rfl (lv_at hl 3 rfl) ?_
  refine xcXi (vx_runV (As := [.int (v), .int (w), .int (x)]) (rest := [.int (nI 0), .ref (o)]) ⟨hx, hb, hml, hown, hts⟩ (c_X4_slot l D cA e0 Fc s.heap ad g tt N hX v w x hA hl9) ⟨(callB_of 3 hts gi_X4_slot rfl rfl rfl (hts _ q_ini_X4) (hts _ q_ml_L_30) hd_X4_slot ⟨Nat.le_of_ble_eq_true rfl, Nat.le_of_ble_eq_true rfl⟩), hts _ q_im_X4_slot, hts _ q_sel_X4_X4_slot⟩ (xpVn hE hS hF (hX.main) rfl) rfl rfl hl.1 rfl (lv_room (Nat.le_of_ble_eq_true rfl)) dL_slot_7 ⟨Nat.le_of_ble_eq_true rfl, Nat.le_of_ble_eq_true rfl⟩) hS hF (fun E9 ce9 q9 H9 locs9 hPX9 hz9 hk9 hS9 hc9 hv9 hcl9 => ?_) (fun r_1 H1 locs hP9 hz9 hk9 hS => ?_)
  · obtain ⟨rfl, h1⟩ := hPX9
    refine vx_catch (E := xIOB) (name := xIOB) hown [] ⟨0, 12, 15, 21⟩ [] (by rw [htab]; rfl) (fun z hz => absurd hz List.not_mem_nil) (by decide) (by decide) (hts _ q_cl_L_21) (hts _ q_ca_java_lang_IndexOutOfBoundsException_java_lang_IndexOutOfBoundsException) hc9 hv9 hcl9 ?_
    have hS := hS9
    refine lv_astore (lv' := [(5, .ref (q9)), (0, .ref (ad 0 0)), (1, .int (v)), (2, .int (w)), (3, .int (x)), (4, .ref (o))]) hx hb dL_slot_15 hl (by decide) rfl (fun ls hl => ?_)
    refine lv_iconst (v := nI 1) hx hb dL_slot_17 (by decide) ?_
    have hpost : (fun r h => (r = nI 0 ∧ ∃ f1, outW D cA o f1 h ∧ (okS (N 0) v w ∧ okK 5 x) ∧ f1 0 = (g (4 + cl x) (6 * cl v + cl w)).toInt64 ∧ xW D cA ad g tt N h) ∨ (r = nI 1 ∧ (¬ (okS (N 0) v w ∧ okK 5 x)) ∧ (xW D cA ad g tt N h ∧ outW D cA o f0 h))) (nI 1) H9 := by
      exact Or.inr ((⟨rfl, h1, hX.keep (fun c j hv => hk9 _ (hX.lt hv)), hO.kept (hk9 _ hO.lt)⟩))
    refine W.widen (k := 3) (n := 18) (by omega) (by omega) ?_
    exact W.iret (v := (nI 1)) hx hb hr (fun t ht _ => ⟨⟨(nI 1), H9, rfl, hpost, ht⟩, hS.F ht⟩) hS.2.2 dL_slot_18
  have hO1 := hO.kept (hk9 _ hO.lt hoF)
  refine lv_i2l (v := r_1.toInt64) hx hb dL_slot_10 rfl ?_
  refine xlast (D := D) hx hb hK hS 1 (hO1) hAo rfl (i := nI 0) (x := r_1.toInt64) (vp_in_nI (n := 0) (by omega) (by omega)) dL_slot_11 (fun H2 locs hU hS => ?_)
  rw [nI_clamp (n := 0) (by omega)] at hU
  refine lv_goto (tgt := 19) hx hb dL_slot_12 (by decide) ?_
  refine lv_iconst (v := nI 0) hx hb dL_slot_19 (by decide) ?_
  have hpost : (fun r h => (r = nI 0 ∧ ∃ f1, outW D cA o f1 h ∧ (okS (N 0) v w ∧ okK 5 x) ∧ f1 0 = (g (4 + cl x) (6 * cl v + cl w)).toInt64 ∧ xW D cA ad g tt N h) ∨ (r = nI 1 ∧ (¬ (okS (N 0) v w ∧ okK 5 x)) ∧ (xW D cA ad g tt N h ∧ outW D cA o f0 h))) (nI 0) H2 := by
    obtain ⟨hHe, p1, hr⟩ := hP9
    exact Or.inl ⟨rfl, _, hU.1, p1, (by rw [pk_uLs, hr]), (show xW D cA ad g tt N H1 by rw [hHe]; exact hX).out hA hoF hU⟩
  refine W.widen (k := 3) (n := 18) (by omega) (by omega) ?_
  exact W.iret (v := (nI 0)) hx hb hr (fun t ht _ => ⟨⟨(nI 0), H2, rfl, hpost, ht⟩, hS.F ht⟩) hS.2.2 dL_slot_20
set_option maxHeartbeats 4000000 in
set_option maxRecDepth 100000 in
/-- the law's call of machine -/
theorem c_L_machine (l : Launch) (D : va_G) (cA : Nat → ClassId) (e0 : Nat) (A : Nat → Prop) (H0 : Heap) (ad : Nat → Nat → Nat) (g : Nat → Nat → Int32) (tt : Nat → Int64) (N : Nat → Nat) (hX : xW D cA ad g tt N H0) (v x : Int32) (Fc : Nat → Prop) (hF : ∀ q, Fc q → A q) (hA : xA Fc e0 ad N) (o : Nat) (f0 : Nat → Int64) (hO : outW D cA o f0 H0) (hAo : A o) (hoF : ¬ Fc o) (hl9 : l.stackTraces = false) : Met l yL_machine w_L_machine ({ frames := 8, cells := 2, slots := 12, locals := 144 } : Room) (xPn D cA e0 A H0 [.ref (ad 0 0), .int (v), .int (x), .ref (o)]) (xQi (fun r h => (r = nI 0 ∧ ∃ f1, outW D cA o f1 h ∧ (okM (N 0) v ∧ okK 4 x) ∧ f1 0 = (machF g (cl v) (cl x)).toInt64 ∧ xW D cA ad g tt N h) ∨ (r = nI 1 ∧ (¬ (okM (N 0) v ∧ okK 4 x)) ∧ (xW D cA ad g tt N h ∧ outW D cA o f0 h))) A) 2 12 (A) := by
  refine va_MetW (hh := [(0, 10, 13, 21)]) (cc := cL_machine) (maxL := 5) (ret := (some .int)) (by decide) rfl ?_
  intro p e s m args below meth c s₁ B hml hv
  obtain ⟨rfl, hH, hE, hNc⟩ := hv
  subst hH
  have hx := B.exec
  have hb := B.bytes
  have hr := B.returns
  have hts := hE.1.all ([.ref (ad 0 0), .int (v), .int (x), .ref (o)] : List Value).toArray
  have htab := vx_table (x := yL_machine) B (hts _ q_co_L_machine)
  have hown : s.vm.findClass RL = some m.cls := findClass_of_methodNamed B.named
  have hlocks := B.notSynchronized
  have hK := hE.2.1
  have hS : va_S A s.heap s.heap [] := va_S.rf
  have hl := lv_entry ([.ref (ad 0 0), .int (v), .int (x), .ref (o)]) (n := 5) (Nat.le_of_ble_eq_true rfl)
  rw [lg_entry_eq]
  generalize (lg_sl ([.ref (ad 0 0), .int (v), .int (x), .ref (o)]) ++ List.replicate (5 - (lg_sl ([.ref (ad 0 0), .int (v), .int (x), .ref (o)])).length) Slot.unset).toArray = ls at hl ⊢
  have hl : lv_has ls 5 [(0, .ref (ad 0 0)), (1, .int (v)), (2, .int (x)), (3, .ref (o))] := hl
  refine lv_aload_n hx hb dL_machine_0 rfl (lv_at hl 3 rfl) ?_
  refine lv_iconst (v := nI 0) hx hb dL_machine_1 (by decide) ?_
  refine lv_aload_n hx hb dL_machine_2 rfl (lv_at hl 0 rfl) ?_
  refine lv_iload_n hx hb dL_machine_3 rfl (lv_at hl 1 rfl) ?_
  refine lv_iload_n hx hb dL_machine_4 rfl (lv_at hl 2 rfl) ?_
  refine xcXi (vx_runV (As := [.int (v), .int (x)]) (rest := [.int (nI 0), .ref (o)]) ⟨hx, hb, hml, hown, hts⟩ (c_X4_machine l D cA e0 Fc s.heap ad g tt N hX v x hA hl9) ⟨(callB_of 2 hts gi_X4_machine rfl rfl rfl (hts _ q_ini_X4) (hts _ q_ml_L_33) hd_X4_machine ⟨Nat.le_of_ble_eq_true rfl, Nat.le_of_ble_eq_true rfl⟩), hts _ q_im_X4_machine, hts _ q_sel_X4_X4_machine⟩ (xpVn hE hS hF (hX.main) rfl) rfl rfl hl.1 rfl (lv_room (Nat.le_of_ble_eq_true rfl)) dL_machine_5 ⟨Nat.le_of_ble_eq_true rfl, Nat.le_of_ble_eq_true rfl⟩) hS hF (fun E9 ce9 q9 H9 locs9 hPX9 hz9 hk9 hS9 hc9 hv9 hcl9 => ?_) (fun r_1 H1 locs hP9 hz9 hk9 hS => ?_)
  · obtain ⟨rfl, h1⟩ := hPX9
    refine vx_catch (E := xIOB) (name := xIOB) hown [] ⟨0, 10, 13, 21⟩ [] (by rw [htab]; rfl) (fun z hz => absurd hz List.not_mem_nil) (by decide) (by decide) (hts _ q_cl_L_21) (hts _ q_ca_java_lang_IndexOutOfBoundsException_java_lang_IndexOutOfBoundsException) hc9 hv9 hcl9 ?_
    have hS := hS9
    refine lv_astore (lv' := [(4, .ref (q9)), (0, .ref (ad 0 0)), (1, .int (v)), (2, .int (x)), (3, .ref (o))]) hx hb dL_machine_13 hl (by decide) rfl (fun ls hl => ?_)
    refine lv_iconst (v := nI 1) hx hb dL_machine_15 (by decide) ?_
    have hpost : (fun r h => (r = nI 0 ∧ ∃ f1, outW D cA o f1 h ∧ (okM (N 0) v ∧ okK 4 x) ∧ f1 0 = (machF g (cl v) (cl x)).toInt64 ∧ xW D cA ad g tt N h) ∨ (r = nI 1 ∧ (¬ (okM (N 0) v ∧ okK 4 x)) ∧ (xW D cA ad g tt N h ∧ outW D cA o f0 h))) (nI 1) H9 := by
      exact Or.inr ((⟨rfl, h1, hX.keep (fun c j hv => hk9 _ (hX.lt hv)), hO.kept (hk9 _ hO.lt)⟩))
    refine W.widen (k := 2) (n := 12) (by omega) (by omega) ?_
    exact W.iret (v := (nI 1)) hx hb hr (fun t ht _ => ⟨⟨(nI 1), H9, rfl, hpost, ht⟩, hS.F ht⟩) hS.2.2 dL_machine_16
  have hO1 := hO.kept (hk9 _ hO.lt hoF)
  refine lv_i2l (v := r_1.toInt64) hx hb dL_machine_8 rfl ?_
  refine xlast (D := D) hx hb hK hS 1 (hO1) hAo rfl (i := nI 0) (x := r_1.toInt64) (vp_in_nI (n := 0) (by omega) (by omega)) dL_machine_9 (fun H2 locs hU hS => ?_)
  rw [nI_clamp (n := 0) (by omega)] at hU
  refine lv_goto (tgt := 17) hx hb dL_machine_10 (by decide) ?_
  refine lv_iconst (v := nI 0) hx hb dL_machine_17 (by decide) ?_
  have hpost : (fun r h => (r = nI 0 ∧ ∃ f1, outW D cA o f1 h ∧ (okM (N 0) v ∧ okK 4 x) ∧ f1 0 = (machF g (cl v) (cl x)).toInt64 ∧ xW D cA ad g tt N h) ∨ (r = nI 1 ∧ (¬ (okM (N 0) v ∧ okK 4 x)) ∧ (xW D cA ad g tt N h ∧ outW D cA o f0 h))) (nI 0) H2 := by
    obtain ⟨hHe, p1, hr⟩ := hP9
    exact Or.inl ⟨rfl, _, hU.1, p1, (by rw [pk_uLs, hr]), (show xW D cA ad g tt N H1 by rw [hHe]; exact hX).out hA hoF hU⟩
  refine W.widen (k := 2) (n := 12) (by omega) (by omega) ?_
  exact W.iret (v := (nI 0)) hx hb hr (fun t ht _ => ⟨⟨(nI 0), H2, rfl, hpost, ht⟩, hS.F ht⟩) hS.2.2 dL_machine_18
set_option maxHeartbeats 4000000 in
set_option maxRecDepth 100000 in
/-- the law's call of runsOut -/
theorem c_L_runsOut (l : Launch) (D : va_G) (cA : Nat → ClassId) (e0 : Nat) (A : Nat → Prop) (H0 : Heap) (ad : Nat → Nat → Nat) (g : Nat → Nat → Int32) (tt : Nat → Int64) (N : Nat → Nat) (hX : xW D cA ad g tt N H0) (v w : Int32) (Fc : Nat → Prop) (hF : ∀ q, Fc q → A q) (hA : xA Fc e0 ad N) (o : Nat) (f0 : Nat → Int64) (hO : outW D cA o f0 H0) (hAo : A o) (hoF : ¬ Fc o) (hl9 : l.stackTraces = false) : Met l yL_runsOut w_L_runsOut ({ frames := 9, cells := 2, slots := 12, locals := 167 } : Room) (xPn D cA e0 A H0 [.ref (ad 0 0), .int (v), .int (w), .ref (o)]) (xQi (fun r h => (r = nI 0 ∧ ∃ f1, outW D cA o f1 h ∧ okS (N 0) v w ∧ f1 0 = (roF g (6 * cl v + cl w)).toInt64 ∧ xW D cA ad g tt N h) ∨ (r = nI 1 ∧ (¬ okS (N 0) v w) ∧ (xW D cA ad g tt N h ∧ outW D cA o f0 h))) A) 2 12 (A) := by
  refine va_MetW (hh := [(0, 10, 13, 21)]) (cc := cL_runsOut) (maxL := 5) (ret := (some .int)) (by decide) rfl ?_
  intro p e s m args below meth c s₁ B hml hv
  obtain ⟨rfl, hH, hE, hNc⟩ := hv
  subst hH
  have hx := B.exec
  have hb := B.bytes
  have hr := B.returns
  have hts := hE.1.all ([.ref (ad 0 0), .int (v), .int (w), .ref (o)] : List Value).toArray
  have htab := vx_table (x := yL_runsOut) B (hts _ q_co_L_runsOut)
  have hown : s.vm.findClass RL = some m.cls := findClass_of_methodNamed B.named
  have hlocks := B.notSynchronized
  have hK := hE.2.1
  have hS : va_S A s.heap s.heap [] := va_S.rf
  have hl := lv_entry ([.ref (ad 0 0), .int (v), .int (w), .ref (o)]) (n := 5) (Nat.le_of_ble_eq_true rfl)
  rw [lg_entry_eq]
  generalize (lg_sl ([.ref (ad 0 0), .int (v), .int (w), .ref (o)]) ++ List.replicate (5 - (lg_sl ([.ref (ad 0 0), .int (v), .int (w), .ref (o)])).length) Slot.unset).toArray = ls at hl ⊢
  have hl : lv_has ls 5 [(0, .ref (ad 0 0)), (1, .int (v)), (2, .int (w)), (3, .ref (o))] := hl
  refine lv_aload_n hx hb dL_runsOut_0 rfl (lv_at hl 3 rfl) ?_
  refine lv_iconst (v := nI 0) hx hb dL_runsOut_1 (by decide) ?_
  refine lv_aload_n hx hb dL_runsOut_2 rfl (lv_at hl 0 rfl) ?_
  refine lv_iload_n hx hb dL_runsOut_3 rfl (lv_at hl 1 rfl) ?_
  refine lv_iload_n hx hb dL_runsOut_4 rfl (lv_at hl 2 rfl) ?_
  refine xcXi (vx_runV (As := [.int (v), .int (w)]) (rest := [.int (nI 0), .ref (o)]) ⟨hx, hb, hml, hown, hts⟩ (c_X4_runsOut l D cA e0 Fc s.heap ad g tt N hX v w hA hl9) ⟨(callB_of 2 hts gi_X4_runsOut rfl rfl rfl (hts _ q_ini_X4) (hts _ q_ml_L_37) hd_X4_runsOut ⟨Nat.le_of_ble_eq_true rfl, Nat.le_of_ble_eq_true rfl⟩), hts _ q_im_X4_runsOut, hts _ q_sel_X4_X4_runsOut⟩ (xpVn hE hS hF (hX.main) rfl) rfl rfl hl.1 rfl (lv_room (Nat.le_of_ble_eq_true rfl)) dL_runsOut_5 ⟨Nat.le_of_ble_eq_true rfl, Nat.le_of_ble_eq_true rfl⟩) hS hF (fun E9 ce9 q9 H9 locs9 hPX9 hz9 hk9 hS9 hc9 hv9 hcl9 => ?_) (fun r_1 H1 locs hP9 hz9 hk9 hS => ?_)
  · obtain ⟨rfl, h1⟩ := hPX9
    refine vx_catch (E := xIOB) (name := xIOB) hown [] ⟨0, 10, 13, 21⟩ [] (by rw [htab]; rfl) (fun z hz => absurd hz List.not_mem_nil) (by decide) (by decide) (hts _ q_cl_L_21) (hts _ q_ca_java_lang_IndexOutOfBoundsException_java_lang_IndexOutOfBoundsException) hc9 hv9 hcl9 ?_
    have hS := hS9
    refine lv_astore (lv' := [(4, .ref (q9)), (0, .ref (ad 0 0)), (1, .int (v)), (2, .int (w)), (3, .ref (o))]) hx hb dL_runsOut_13 hl (by decide) rfl (fun ls hl => ?_)
    refine lv_iconst (v := nI 1) hx hb dL_runsOut_15 (by decide) ?_
    have hpost : (fun r h => (r = nI 0 ∧ ∃ f1, outW D cA o f1 h ∧ okS (N 0) v w ∧ f1 0 = (roF g (6 * cl v + cl w)).toInt64 ∧ xW D cA ad g tt N h) ∨ (r = nI 1 ∧ (¬ okS (N 0) v w) ∧ (xW D cA ad g tt N h ∧ outW D cA o f0 h))) (nI 1) H9 := by
      exact Or.inr ((⟨rfl, h1, hX.keep (fun c j hv => hk9 _ (hX.lt hv)), hO.kept (hk9 _ hO.lt)⟩))
    refine W.widen (k := 2) (n := 12) (by omega) (by omega) ?_
    exact W.iret (v := (nI 1)) hx hb hr (fun t ht _ => ⟨⟨(nI 1), H9, rfl, hpost, ht⟩, hS.F ht⟩) hS.2.2 dL_runsOut_16
  have hO1 := hO.kept (hk9 _ hO.lt hoF)
  refine lv_i2l (v := r_1.toInt64) hx hb dL_runsOut_8 rfl ?_
  refine xlast (D := D) hx hb hK hS 1 (hO1) hAo rfl (i := nI 0) (x := r_1.toInt64) (vp_in_nI (n := 0) (by omega) (by omega)) dL_runsOut_9 (fun H2 locs hU hS => ?_)
  rw [nI_clamp (n := 0) (by omega)] at hU
  refine lv_goto (tgt := 17) hx hb dL_runsOut_10 (by decide) ?_
  refine lv_iconst (v := nI 0) hx hb dL_runsOut_17 (by decide) ?_
  have hpost : (fun r h => (r = nI 0 ∧ ∃ f1, outW D cA o f1 h ∧ okS (N 0) v w ∧ f1 0 = (roF g (6 * cl v + cl w)).toInt64 ∧ xW D cA ad g tt N h) ∨ (r = nI 1 ∧ (¬ okS (N 0) v w) ∧ (xW D cA ad g tt N h ∧ outW D cA o f0 h))) (nI 0) H2 := by
    obtain ⟨hHe, p1, hr⟩ := hP9
    exact Or.inl ⟨rfl, _, hU.1, p1, (by rw [pk_uLs, hr]), (show xW D cA ad g tt N H1 by rw [hHe]; exact hX).out hA hoF hU⟩
  refine W.widen (k := 2) (n := 12) (by omega) (by omega) ?_
  exact W.iret (v := (nI 0)) hx hb hr (fun t ht _ => ⟨⟨(nI 0), H2, rfl, hpost, ht⟩, hS.F ht⟩) hS.2.2 dL_runsOut_18
set_option maxHeartbeats 4000000 in
set_option maxRecDepth 100000 in
/-- the law's call of pass -/
theorem c_L_pass (l : Launch) (D : va_G) (cA : Nat → ClassId) (e0 : Nat) (A : Nat → Prop) (H0 : Heap) (ad : Nat → Nat → Nat) (g : Nat → Nat → Int32) (tt : Nat → Int64) (N : Nat → Nat) (hX : xW D cA ad g tt N H0) (v : Int32) (Fc : Nat → Prop) (hF : ∀ q, Fc q → A q) (hA : xA Fc e0 ad N) (hI : slInv g (N 0)) (hC : chOK g (N 0) (N 1)) (hdy : ∃ d0, d0 ≤ 999 ∧ g 13 0 = nI d0) (o : Nat) (f0 : Nat → Int64) (hO : outW D cA o f0 H0) (hAo : A o) (hoF : ¬ Fc o) (hl9 : l.stackTraces = false) : Met l yL_pass w_L_pass ({ frames := 7, cells := 1, slots := 6, locals := 131 } : Room) (xPn D cA e0 A H0 [.ref (ad 0 0), .int (v), .ref (o)]) (xQi (fun r h => (r = nI 0 ∧ ∃ f1, outW D cA o f1 h ∧ (okR 1 30 v ∧ sumI (g 13 0) v ≤ 999) ∧ f1 0 = (nI (psS (N 0) g (N 1) (cl v)).2.2).toInt64 ∧ ∃ ad2 g2 N2, xW D cA ad2 g2 tt N2 h ∧ xA Fc e0 ad2 N2 ∧ eq4 (psS (N 0) g (N 1) (cl v)).1 g2 ∧ N2 1 = (psS (N 0) g (N 1) (cl v)).2.1 ∧ (∀ c, c ≠ 1 → N2 c = N c) ∧ (∀ c, c ≠ 4 → ad2 c = ad c)) ∨ (r = nI 1 ∧ (¬ okR 1 30 v) ∧ (xW D cA ad g tt N h ∧ outW D cA o f0 h)) ∨ (r = nI 2 ∧ (okR 1 30 v ∧ ¬ (sumI (g 13 0) v ≤ 999)) ∧ (xW D cA ad g tt N h ∧ outW D cA o f0 h))) A) 1 6 (A) := by
  refine va_MetW (hh := [(0, 9, 12, 13), (0, 9, 15, 15)]) (cc := cL_pass) (maxL := 4) (ret := (some .int)) (by decide) rfl ?_
  intro p e s m args below meth c s₁ B hml hv
  obtain ⟨rfl, hH, hE, hNc⟩ := hv
  subst hH
  have hx := B.exec
  have hb := B.bytes
  have hr := B.returns
  have hts := hE.1.all ([.ref (ad 0 0), .int (v), .ref (o)] : List Value).toArray
  have htab := vx_table (x := yL_pass) B (hts _ q_co_L_pass)
  have hown : s.vm.findClass RL = some m.cls := findClass_of_methodNamed B.named
  have hlocks := B.notSynchronized
  have hK := hE.2.1
  have hS : va_S A s.heap s.heap [] := va_S.rf
  have hl := lv_entry ([.ref (ad 0 0), .int (v), .ref (o)]) (n := 4) (Nat.le_of_ble_eq_true rfl)
  rw [lg_entry_eq]
  generalize (lg_sl ([.ref (ad 0 0), .int (v), .ref (o)]) ++ List.replicate (4 - (lg_sl ([.ref (ad 0 0), .int (v), .ref (o)])).length) Slot.unset).toArray = ls at hl ⊢
  have hl : lv_has ls 4 [(0, .ref (ad 0 0)), (1, .int (v)), (2, .ref (o))] := hl
  refine lv_aload_n hx hb dL_pass_0 rfl (lv_at hl 2 rfl) ?_
  refine lv_iconst (v := nI 0) hx hb dL_pass_1 (by decide) ?_
  refine lv_aload_n hx hb dL_pass_2 rfl (lv_at hl 0 rfl) ?_
  refine lv_iload_n hx hb dL_pass_3 rfl (lv_at hl 1 rfl) ?_
  refine xcXi (vx_runV (As := [.int (v)]) (rest := [.int (nI 0), .ref (o)]) ⟨hx, hb, hml, hown, hts⟩ (c_X4_pass l D cA e0 Fc s.heap ad g tt N hX v hA hI hC hdy hl9) ⟨(callB_of 1 hts gi_X4_pass rfl rfl rfl (hts _ q_ini_X4) (hts _ q_ml_L_40) hd_X4_pass ⟨Nat.le_of_ble_eq_true rfl, Nat.le_of_ble_eq_true rfl⟩), hts _ q_im_X4_pass, hts _ q_sel_X4_X4_pass⟩ (xpVn hE hS hF (hX.main) rfl) rfl rfl hl.1 rfl (lv_room (Nat.le_of_ble_eq_true rfl)) dL_pass_4 ⟨Nat.le_of_ble_eq_true rfl, Nat.le_of_ble_eq_true rfl⟩) hS hF (fun E9 ce9 q9 H9 locs9 hPX9 hz9 hk9 hS9 hc9 hv9 hcl9 => ?_) (fun r_1 H1 locs hP9 hz9 hk9 hS => ?_)
  · rcases hPX9 with ⟨rfl, h1⟩ | ⟨rfl, h1⟩
    · refine vx_catch (E := xIAE) (name := xIAE) hown [] ⟨0, 9, 12, 13⟩ [⟨0, 9, 15, 15⟩] (by rw [htab]; rfl) (fun z hz => absurd hz List.not_mem_nil) (by decide) (by decide) (hts _ q_cl_L_13) (hts _ q_ca_java_lang_IllegalArgumentException_java_lang_IllegalArgumentException) hc9 hv9 hcl9 ?_
      have hS := hS9
      refine lv_astore_n (lv' := [(3, .ref (q9)), (0, .ref (ad 0 0)), (1, .int (v)), (2, .ref (o))]) hx hb dL_pass_12 rfl hl (by decide) rfl (fun ls hl => ?_)
      refine lv_iconst (v := nI 1) hx hb dL_pass_13 (by decide) ?_
      have hpost : (fun r h => (r = nI 0 ∧ ∃ f1, outW D cA o f1 h ∧ (okR 1 30 v ∧ sumI (g 13 0) v ≤ 999) ∧ f1 0 = (nI (psS (N 0) g (N 1) (cl v)).2.2).toInt64 ∧ ∃ ad2 g2 N2, xW D cA ad2 g2 tt N2 h ∧ xA Fc e0 ad2 N2 ∧ eq4 (psS (N 0) g (N 1) (cl v)).1 g2 ∧ N2 1 = (psS (N 0) g (N 1) (cl v)).2.1 ∧ (∀ c, c ≠ 1 → N2 c = N c) ∧ (∀ c, c ≠ 4 → ad2 c = ad c)) ∨ (r = nI 1 ∧ (¬ okR 1 30 v) ∧ (xW D cA ad g tt N h ∧ outW D cA o f0 h)) ∨ (r = nI 2 ∧ (okR 1 30 v ∧ ¬ (sumI (g 13 0) v ≤ 999)) ∧ (xW D cA ad g tt N h ∧ outW D cA o f0 h))) (nI 1) H9 := by
        exact Or.inr (Or.inl (⟨rfl, h1, hX.keep (fun c j hv => hk9 _ (hX.lt hv)), hO.kept (hk9 _ hO.lt)⟩))
      refine W.widen (k := 1) (n := 6) (by omega) (by omega) ?_
      exact W.iret (v := (nI 1)) hx hb hr (fun t ht _ => ⟨⟨(nI 1), H9, rfl, hpost, ht⟩, hS.F ht⟩) hS.2.2 dL_pass_14
    · refine vx_catch (E := xISE) (name := xISE) hown [⟨0, 9, 12, 13⟩] ⟨0, 9, 15, 15⟩ [] (by rw [htab]; rfl) (fun z hz => by
            rcases List.mem_cons.mp hz with rfl | hz
            · exact Or.inr ⟨by decide, xIAE, hts _ q_cl_L_13, hNc.1⟩
            · exact absurd hz List.not_mem_nil) (by decide) (by decide) (hts _ q_cl_L_15) (hts _ q_ca_java_lang_IllegalStateException_java_lang_IllegalStateException) hc9 hv9 hcl9 ?_
      have hS := hS9
      refine lv_astore_n (lv' := [(3, .ref (q9)), (0, .ref (ad 0 0)), (1, .int (v)), (2, .ref (o))]) hx hb dL_pass_15 rfl hl (by decide) rfl (fun ls hl => ?_)
      refine lv_iconst (v := nI 2) hx hb dL_pass_16 (by decide) ?_
      have hpost : (fun r h => (r = nI 0 ∧ ∃ f1, outW D cA o f1 h ∧ (okR 1 30 v ∧ sumI (g 13 0) v ≤ 999) ∧ f1 0 = (nI (psS (N 0) g (N 1) (cl v)).2.2).toInt64 ∧ ∃ ad2 g2 N2, xW D cA ad2 g2 tt N2 h ∧ xA Fc e0 ad2 N2 ∧ eq4 (psS (N 0) g (N 1) (cl v)).1 g2 ∧ N2 1 = (psS (N 0) g (N 1) (cl v)).2.1 ∧ (∀ c, c ≠ 1 → N2 c = N c) ∧ (∀ c, c ≠ 4 → ad2 c = ad c)) ∨ (r = nI 1 ∧ (¬ okR 1 30 v) ∧ (xW D cA ad g tt N h ∧ outW D cA o f0 h)) ∨ (r = nI 2 ∧ (okR 1 30 v ∧ ¬ (sumI (g 13 0) v ≤ 999)) ∧ (xW D cA ad g tt N h ∧ outW D cA o f0 h))) (nI 2) H9 := by
        exact Or.inr (Or.inr ((⟨rfl, h1, hX.keep (fun c j hv => hk9 _ (hX.lt hv)), hO.kept (hk9 _ hO.lt)⟩)))
      refine W.widen (k := 1) (n := 6) (by omega) (by omega) ?_
      exact W.iret (v := (nI 2)) hx hb hr (fun t ht _ => ⟨⟨(nI 2), H9, rfl, hpost, ht⟩, hS.F ht⟩) hS.2.2 dL_pass_17
  have hO1 := hO.kept (hk9 _ hO.lt hoF)
  refine lv_i2l (v := r_1.toInt64) hx hb dL_pass_7 rfl ?_
  refine xlast (D := D) hx hb hK hS 1 (hO1) hAo rfl (i := nI 0) (x := r_1.toInt64) (vp_in_nI (n := 0) (by omega) (by omega)) dL_pass_8 (fun H2 locs hU hS => ?_)
  rw [nI_clamp (n := 0) (by omega)] at hU
  refine lv_goto (tgt := 18) hx hb dL_pass_9 (by decide) ?_
  refine lv_iconst (v := nI 0) hx hb dL_pass_18 (by decide) ?_
  have hpost : (fun r h => (r = nI 0 ∧ ∃ f1, outW D cA o f1 h ∧ (okR 1 30 v ∧ sumI (g 13 0) v ≤ 999) ∧ f1 0 = (nI (psS (N 0) g (N 1) (cl v)).2.2).toInt64 ∧ ∃ ad2 g2 N2, xW D cA ad2 g2 tt N2 h ∧ xA Fc e0 ad2 N2 ∧ eq4 (psS (N 0) g (N 1) (cl v)).1 g2 ∧ N2 1 = (psS (N 0) g (N 1) (cl v)).2.1 ∧ (∀ c, c ≠ 1 → N2 c = N c) ∧ (∀ c, c ≠ 4 → ad2 c = ad c)) ∨ (r = nI 1 ∧ (¬ okR 1 30 v) ∧ (xW D cA ad g tt N h ∧ outW D cA o f0 h)) ∨ (r = nI 2 ∧ (okR 1 30 v ∧ ¬ (sumI (g 13 0) v ≤ 999)) ∧ (xW D cA ad g tt N h ∧ outW D cA o f0 h))) (nI 0) H2 := by
    obtain ⟨p1, ad2, g2, N2, hX2, hA2, p2, p3, p4, p5, hr⟩ := hP9
    exact Or.inl ⟨rfl, _, hU.1, p1, (by rw [pk_uLs, hr]), ad2, g2, N2, hX2.out hA2 hoF hU, hA2, p2, p3, p4, p5⟩
  refine W.widen (k := 1) (n := 6) (by omega) (by omega) ?_
  exact W.iret (v := (nI 0)) hx hb hr (fun t ht _ => ⟨⟨(nI 0), H2, rfl, hpost, ht⟩, hS.F ht⟩) hS.2.2 dL_pass_19
set_option maxHeartbeats 4000000 in
set_option maxRecDepth 100000 in
/-- the law's call of drive -/
theorem c_L_drive (l : Launch) (D : va_G) (cA : Nat → ClassId) (e0 : Nat) (A : Nat → Prop) (H0 : Heap) (ad : Nat → Nat → Nat) (g : Nat → Nat → Int32) (tt : Nat → Int64) (N : Nat → Nat) (hX : xW D cA ad g tt N H0) (v : Int32) (Fc : Nat → Prop) (hF : ∀ q, Fc q → A q) (hA : xA Fc e0 ad N) (hW : hwAll g (N 0)) (o : Nat) (f0 : Nat → Int64) (hO : outW D cA o f0 H0) (hAo : A o) (hoF : ¬ Fc o) (hl9 : l.stackTraces = false) : Met l yL_drive w_L_drive ({ frames := 8, cells := 1, slots := 6, locals := 142 } : Room) (xPn D cA e0 A H0 [.ref (ad 0 0), .int (v), .ref (o)]) (xQi (fun r h => (r = nI 0 ∧ ∃ f1, outW D cA o f1 h ∧ okT (N 0) v ∧ f1 0 = (tw (wy g) (cl v) 8).toInt64 ∧ xW D cA ad g tt N h) ∨ (r = nI 1 ∧ (¬ okT (N 0) v) ∧ (xW D cA ad g tt N h ∧ outW D cA o f0 h))) A) 1 6 (A) := by
  refine va_MetW (hh := [(0, 9, 12, 13)]) (cc := cL_drive) (maxL := 4) (ret := (some .int)) (by decide) rfl ?_
  intro p e s m args below meth c s₁ B hml hv
  obtain ⟨rfl, hH, hE, hNc⟩ := hv
  subst hH
  have hx := B.exec
  have hb := B.bytes
  have hr := B.returns
  have hts := hE.1.all ([.ref (ad 0 0), .int (v), .ref (o)] : List Value).toArray
  have htab := vx_table (x := yL_drive) B (hts _ q_co_L_drive)
  have hown : s.vm.findClass RL = some m.cls := findClass_of_methodNamed B.named
  have hlocks := B.notSynchronized
  have hK := hE.2.1
  have hS : va_S A s.heap s.heap [] := va_S.rf
  have hl := lv_entry ([.ref (ad 0 0), .int (v), .ref (o)]) (n := 4) (Nat.le_of_ble_eq_true rfl)
  rw [lg_entry_eq]
  generalize (lg_sl ([.ref (ad 0 0), .int (v), .ref (o)]) ++ List.replicate (4 - (lg_sl ([.ref (ad 0 0), .int (v), .ref (o)])).length) Slot.unset).toArray = ls at hl ⊢
  have hl : lv_has ls 4 [(0, .ref (ad 0 0)), (1, .int (v)), (2, .ref (o))] := hl
  refine lv_aload_n hx hb dL_drive_0 rfl (lv_at hl 2 rfl) ?_
  refine lv_iconst (v := nI 0) hx hb dL_drive_1 (by decide) ?_
  refine lv_aload_n hx hb dL_drive_2 rfl (lv_at hl 0 rfl) ?_
  refine lv_iload_n hx hb dL_drive_3 rfl (lv_at hl 1 rfl) ?_
  refine xcXi (vx_runV (As := [.int (v)]) (rest := [.int (nI 0), .ref (o)]) ⟨hx, hb, hml, hown, hts⟩ (c_X4_drive l D cA e0 Fc s.heap ad g tt N hX v hA hW hl9) ⟨(callB_of 1 hts gi_X4_drive rfl rfl rfl (hts _ q_ini_X4) (hts _ q_ml_L_43) hd_X4_drive ⟨Nat.le_of_ble_eq_true rfl, Nat.le_of_ble_eq_true rfl⟩), hts _ q_im_X4_drive, hts _ q_sel_X4_X4_drive⟩ (xpVn hE hS hF (hX.main) rfl) rfl rfl hl.1 rfl (lv_room (Nat.le_of_ble_eq_true rfl)) dL_drive_4 ⟨Nat.le_of_ble_eq_true rfl, Nat.le_of_ble_eq_true rfl⟩) hS hF (fun E9 ce9 q9 H9 locs9 hPX9 hz9 hk9 hS9 hc9 hv9 hcl9 => ?_) (fun r_1 H1 locs hP9 hz9 hk9 hS => ?_)
  · obtain ⟨rfl, h1⟩ := hPX9
    refine vx_catch (E := xIAE) (name := xIAE) hown [] ⟨0, 9, 12, 13⟩ [] (by rw [htab]; rfl) (fun z hz => absurd hz List.not_mem_nil) (by decide) (by decide) (hts _ q_cl_L_13) (hts _ q_ca_java_lang_IllegalArgumentException_java_lang_IllegalArgumentException) hc9 hv9 hcl9 ?_
    have hS := hS9
    refine lv_astore_n (lv' := [(3, .ref (q9)), (0, .ref (ad 0 0)), (1, .int (v)), (2, .ref (o))]) hx hb dL_drive_12 rfl hl (by decide) rfl (fun ls hl => ?_)
    refine lv_iconst (v := nI 1) hx hb dL_drive_13 (by decide) ?_
    have hpost : (fun r h => (r = nI 0 ∧ ∃ f1, outW D cA o f1 h ∧ okT (N 0) v ∧ f1 0 = (tw (wy g) (cl v) 8).toInt64 ∧ xW D cA ad g tt N h) ∨ (r = nI 1 ∧ (¬ okT (N 0) v) ∧ (xW D cA ad g tt N h ∧ outW D cA o f0 h))) (nI 1) H9 := by
      exact Or.inr ((⟨rfl, h1, hX.keep (fun c j hv => hk9 _ (hX.lt hv)), hO.kept (hk9 _ hO.lt)⟩))
    refine W.widen (k := 1) (n := 6) (by omega) (by omega) ?_
    exact W.iret (v := (nI 1)) hx hb hr (fun t ht _ => ⟨⟨(nI 1), H9, rfl, hpost, ht⟩, hS.F ht⟩) hS.2.2 dL_drive_14
  have hO1 := hO.kept (hk9 _ hO.lt hoF)
  refine lv_i2l (v := r_1.toInt64) hx hb dL_drive_7 rfl ?_
  refine xlast (D := D) hx hb hK hS 1 (hO1) hAo rfl (i := nI 0) (x := r_1.toInt64) (vp_in_nI (n := 0) (by omega) (by omega)) dL_drive_8 (fun H2 locs hU hS => ?_)
  rw [nI_clamp (n := 0) (by omega)] at hU
  refine lv_goto (tgt := 15) hx hb dL_drive_9 (by decide) ?_
  refine lv_iconst (v := nI 0) hx hb dL_drive_15 (by decide) ?_
  have hpost : (fun r h => (r = nI 0 ∧ ∃ f1, outW D cA o f1 h ∧ okT (N 0) v ∧ f1 0 = (tw (wy g) (cl v) 8).toInt64 ∧ xW D cA ad g tt N h) ∨ (r = nI 1 ∧ (¬ okT (N 0) v) ∧ (xW D cA ad g tt N h ∧ outW D cA o f0 h))) (nI 0) H2 := by
    obtain ⟨hHe, p1, hr⟩ := hP9
    exact Or.inl ⟨rfl, _, hU.1, p1, (by rw [pk_uLs, hr]), (show xW D cA ad g tt N H1 by rw [hHe]; exact hX).out hA hoF hU⟩
  refine W.widen (k := 1) (n := 6) (by omega) (by omega) ?_
  exact W.iret (v := (nI 0)) hx hb hr (fun t ht _ => ⟨⟨(nI 0), H2, rfl, hpost, ht⟩, hS.F ht⟩) hS.2.2 dL_drive_16
set_option maxHeartbeats 4000000 in
set_option maxRecDepth 100000 in
/-- the law's call of visit -/
theorem c_L_visit (l : Launch) (D : va_G) (cA : Nat → ClassId) (e0 : Nat) (A : Nat → Prop) (H0 : Heap) (ad : Nat → Nat → Nat) (g : Nat → Nat → Int32) (tt : Nat → Int64) (N : Nat → Nat) (hX : xW D cA ad g tt N H0) (v x : Int32) (Fc : Nat → Prop) (hF : ∀ q, Fc q → A q) (hA : xA Fc e0 ad N) (hW : hwAll g (N 0)) (o : Nat) (f0 : Nat → Int64) (hO : outW D cA o f0 H0) (hAo : A o) (hoF : ¬ Fc o) (hl9 : l.stackTraces = false) : Met l yL_visit w_L_visit ({ frames := 8, cells := 2, slots := 12, locals := 146 } : Room) (xPn D cA e0 A H0 [.ref (ad 0 0), .int (v), .int (x), .ref (o)]) (xQi (fun r h => (r = nI 0 ∧ ∃ f1, outW D cA o f1 h ∧ (okT (N 0) v ∧ okV v x) ∧ f1 0 = (nI (vs (wy g) (cl v) (cl x + 1)).2).toInt64 ∧ xW D cA ad g tt N h) ∨ (r = nI 1 ∧ (¬ okT (N 0) v) ∧ (xW D cA ad g tt N h ∧ outW D cA o f0 h)) ∨ (r = nI 2 ∧ (okT (N 0) v ∧ ¬ okV v x) ∧ (xW D cA ad g tt N h ∧ outW D cA o f0 h))) A) 2 12 (A) := by
  refine va_MetW (hh := [(0, 10, 13, 13), (0, 10, 17, 21)]) (cc := cL_visit) (maxL := 5) (ret := (some .int)) (by decide) rfl ?_
  intro p e s m args below meth c s₁ B hml hv
  obtain ⟨rfl, hH, hE, hNc⟩ := hv
  subst hH
  have hx := B.exec
  have hb := B.bytes
  have hr := B.returns
  have hts := hE.1.all ([.ref (ad 0 0), .int (v), .int (x), .ref (o)] : List Value).toArray
  have htab := vx_table (x := yL_visit) B (hts _ q_co_L_visit)
  have hown : s.vm.findClass RL = some m.cls := findClass_of_methodNamed B.named
  have hlocks := B.notSynchronized
  have hK := hE.2.1
  have hS : va_S A s.heap s.heap [] := va_S.rf
  have hl := lv_entry ([.ref (ad 0 0), .int (v), .int (x), .ref (o)]) (n := 5) (Nat.le_of_ble_eq_true rfl)
  rw [lg_entry_eq]
  generalize (lg_sl ([.ref (ad 0 0), .int (v), .int (x), .ref (o)]) ++ List.replicate (5 - (lg_sl ([.ref (ad 0 0), .int (v), .int (x), .ref (o)])).length) Slot.unset).toArray = ls at hl ⊢
  have hl : lv_has ls 5 [(0, .ref (ad 0 0)), (1, .int (v)), (2, .int (x)), (3, .ref (o))] := hl
  refine lv_aload_n hx hb dL_visit_0 rfl (lv_at hl 3 rfl) ?_
  refine lv_iconst (v := nI 0) hx hb dL_visit_1 (by decide) ?_
  refine lv_aload_n hx hb dL_visit_2 rfl (lv_at hl 0 rfl) ?_
  refine lv_iload_n hx hb dL_visit_3 rfl (lv_at hl 1 rfl) ?_
  refine lv_iload_n hx hb dL_visit_4 rfl (lv_at hl 2 rfl) ?_
  refine xcXi (vx_runV (As := [.int (v), .int (x)]) (rest := [.int (nI 0), .ref (o)]) ⟨hx, hb, hml, hown, hts⟩ (c_X4_visit l D cA e0 Fc s.heap ad g tt N hX v x hA hW hl9) ⟨(callB_of 2 hts gi_X4_visit rfl rfl rfl (hts _ q_ini_X4) (hts _ q_ml_L_46) hd_X4_visit ⟨Nat.le_of_ble_eq_true rfl, Nat.le_of_ble_eq_true rfl⟩), hts _ q_im_X4_visit, hts _ q_sel_X4_X4_visit⟩ (xpVn hE hS hF (hX.main) rfl) rfl rfl hl.1 rfl (lv_room (Nat.le_of_ble_eq_true rfl)) dL_visit_5 ⟨Nat.le_of_ble_eq_true rfl, Nat.le_of_ble_eq_true rfl⟩) hS hF (fun E9 ce9 q9 H9 locs9 hPX9 hz9 hk9 hS9 hc9 hv9 hcl9 => ?_) (fun r_1 H1 locs hP9 hz9 hk9 hS => ?_)
  · rcases hPX9 with ⟨rfl, h1⟩ | ⟨rfl, h1⟩
    · refine vx_catch (E := xIAE) (name := xIAE) hown [] ⟨0, 10, 13, 13⟩ [⟨0, 10, 17, 21⟩] (by rw [htab]; rfl) (fun z hz => absurd hz List.not_mem_nil) (by decide) (by decide) (hts _ q_cl_L_13) (hts _ q_ca_java_lang_IllegalArgumentException_java_lang_IllegalArgumentException) hc9 hv9 hcl9 ?_
      have hS := hS9
      refine lv_astore (lv' := [(4, .ref (q9)), (0, .ref (ad 0 0)), (1, .int (v)), (2, .int (x)), (3, .ref (o))]) hx hb dL_visit_13 hl (by decide) rfl (fun ls hl => ?_)
      refine lv_iconst (v := nI 1) hx hb dL_visit_15 (by decide) ?_
      have hpost : (fun r h => (r = nI 0 ∧ ∃ f1, outW D cA o f1 h ∧ (okT (N 0) v ∧ okV v x) ∧ f1 0 = (nI (vs (wy g) (cl v) (cl x + 1)).2).toInt64 ∧ xW D cA ad g tt N h) ∨ (r = nI 1 ∧ (¬ okT (N 0) v) ∧ (xW D cA ad g tt N h ∧ outW D cA o f0 h)) ∨ (r = nI 2 ∧ (okT (N 0) v ∧ ¬ okV v x) ∧ (xW D cA ad g tt N h ∧ outW D cA o f0 h))) (nI 1) H9 := by
        exact Or.inr (Or.inl (⟨rfl, h1, hX.keep (fun c j hv => hk9 _ (hX.lt hv)), hO.kept (hk9 _ hO.lt)⟩))
      refine W.widen (k := 2) (n := 12) (by omega) (by omega) ?_
      exact W.iret (v := (nI 1)) hx hb hr (fun t ht _ => ⟨⟨(nI 1), H9, rfl, hpost, ht⟩, hS.F ht⟩) hS.2.2 dL_visit_16
    · refine vx_catch (E := xIOB) (name := xIOB) hown [⟨0, 10, 13, 13⟩] ⟨0, 10, 17, 21⟩ [] (by rw [htab]; rfl) (fun z hz => by
            rcases List.mem_cons.mp hz with rfl | hz
            · exact Or.inr ⟨by decide, xIAE, hts _ q_cl_L_13, hNc.2.2.2⟩
            · exact absurd hz List.not_mem_nil) (by decide) (by decide) (hts _ q_cl_L_21) (hts _ q_ca_java_lang_IndexOutOfBoundsException_java_lang_IndexOutOfBoundsException) hc9 hv9 hcl9 ?_
      have hS := hS9
      refine lv_astore (lv' := [(4, .ref (q9)), (0, .ref (ad 0 0)), (1, .int (v)), (2, .int (x)), (3, .ref (o))]) hx hb dL_visit_17 hl (by decide) rfl (fun ls hl => ?_)
      refine lv_iconst (v := nI 2) hx hb dL_visit_19 (by decide) ?_
      have hpost : (fun r h => (r = nI 0 ∧ ∃ f1, outW D cA o f1 h ∧ (okT (N 0) v ∧ okV v x) ∧ f1 0 = (nI (vs (wy g) (cl v) (cl x + 1)).2).toInt64 ∧ xW D cA ad g tt N h) ∨ (r = nI 1 ∧ (¬ okT (N 0) v) ∧ (xW D cA ad g tt N h ∧ outW D cA o f0 h)) ∨ (r = nI 2 ∧ (okT (N 0) v ∧ ¬ okV v x) ∧ (xW D cA ad g tt N h ∧ outW D cA o f0 h))) (nI 2) H9 := by
        exact Or.inr (Or.inr ((⟨rfl, h1, hX.keep (fun c j hv => hk9 _ (hX.lt hv)), hO.kept (hk9 _ hO.lt)⟩)))
      refine W.widen (k := 2) (n := 12) (by omega) (by omega) ?_
      exact W.iret (v := (nI 2)) hx hb hr (fun t ht _ => ⟨⟨(nI 2), H9, rfl, hpost, ht⟩, hS.F ht⟩) hS.2.2 dL_visit_20
  have hO1 := hO.kept (hk9 _ hO.lt hoF)
  refine lv_i2l (v := r_1.toInt64) hx hb dL_visit_8 rfl ?_
  refine xlast (D := D) hx hb hK hS 1 (hO1) hAo rfl (i := nI 0) (x := r_1.toInt64) (vp_in_nI (n := 0) (by omega) (by omega)) dL_visit_9 (fun H2 locs hU hS => ?_)
  rw [nI_clamp (n := 0) (by omega)] at hU
  refine lv_goto (tgt := 21) hx hb dL_visit_10 (by decide) ?_
  refine lv_iconst (v := nI 0) hx hb dL_visit_21 (by decide) ?_
  have hpost : (fun r h => (r = nI 0 ∧ ∃ f1, outW D cA o f1 h ∧ (okT (N 0) v ∧ okV v x) ∧ f1 0 = (nI (vs (wy g) (cl v) (cl x + 1)).2).toInt64 ∧ xW D cA ad g tt N h) ∨ (r = nI 1 ∧ (¬ okT (N 0) v) ∧ (xW D cA ad g tt N h ∧ outW D cA o f0 h)) ∨ (r = nI 2 ∧ (okT (N 0) v ∧ ¬ okV v x) ∧ (xW D cA ad g tt N h ∧ outW D cA o f0 h))) (nI 0) H2 := by
    obtain ⟨hHe, p1, hr⟩ := hP9
    exact Or.inl ⟨rfl, _, hU.1, p1, (by rw [pk_uLs, hr]), (show xW D cA ad g tt N H1 by rw [hHe]; exact hX).out hA hoF hU⟩
  refine W.widen (k := 2) (n := 12) (by omega) (by omega) ?_
  exact W.iret (v := (nI 0)) hx hb hr (fun t ht _ => ⟨⟨(nI 0), H2, rfl, hpost, ht⟩, hS.F ht⟩) hS.2.2 dL_visit_22
set_option maxHeartbeats 4000000 in
set_option maxRecDepth 100000 in
/-- the law's call of minutes -/
theorem c_L_minutes (l : Launch) (D : va_G) (cA : Nat → ClassId) (e0 : Nat) (A : Nat → Prop) (H0 : Heap) (ad : Nat → Nat → Nat) (g : Nat → Nat → Int32) (tt : Nat → Int64) (N : Nat → Nat) (hX : xW D cA ad g tt N H0) (v : Int32) (Fc : Nat → Prop) (hF : ∀ q, Fc q → A q) (hA : xA Fc e0 ad N) (hW : hwAll g (N 0)) (o : Nat) (f0 : Nat → Int64) (hO : outW D cA o f0 H0) (hAo : A o) (hoF : ¬ Fc o) (hl9 : l.stackTraces = false) : Met l yL_minutes w_L_minutes ({ frames := 8, cells := 1, slots := 6, locals := 142 } : Room) (xPn D cA e0 A H0 [.ref (ad 0 0), .int (v), .ref (o)]) (xQi (fun r h => (r = nI 0 ∧ ∃ f1, outW D cA o f1 h ∧ okT (N 0) v ∧ f1 0 = (rtF g (cl v)).toInt64 ∧ ∃ g2, xW D cA ad g2 tt N h ∧ svOK g g2 (N 0)) ∨ (r = nI 1 ∧ (¬ okT (N 0) v) ∧ (xW D cA ad g tt N h ∧ outW D cA o f0 h))) A) 1 6 (A) := by
  refine va_MetW (hh := [(0, 9, 12, 13)]) (cc := cL_minutes) (maxL := 4) (ret := (some .int)) (by decide) rfl ?_
  intro p e s m args below meth c s₁ B hml hv
  obtain ⟨rfl, hH, hE, hNc⟩ := hv
  subst hH
  have hx := B.exec
  have hb := B.bytes
  have hr := B.returns
  have hts := hE.1.all ([.ref (ad 0 0), .int (v), .ref (o)] : List Value).toArray
  have htab := vx_table (x := yL_minutes) B (hts _ q_co_L_minutes)
  have hown : s.vm.findClass RL = some m.cls := findClass_of_methodNamed B.named
  have hlocks := B.notSynchronized
  have hK := hE.2.1
  have hS : va_S A s.heap s.heap [] := va_S.rf
  have hl := lv_entry ([.ref (ad 0 0), .int (v), .ref (o)]) (n := 4) (Nat.le_of_ble_eq_true rfl)
  rw [lg_entry_eq]
  generalize (lg_sl ([.ref (ad 0 0), .int (v), .ref (o)]) ++ List.replicate (4 - (lg_sl ([.ref (ad 0 0), .int (v), .ref (o)])).length) Slot.unset).toArray = ls at hl ⊢
  have hl : lv_has ls 4 [(0, .ref (ad 0 0)), (1, .int (v)), (2, .ref (o))] := hl
  refine lv_aload_n hx hb dL_minutes_0 rfl (lv_at hl 2 rfl) ?_
  refine lv_iconst (v := nI 0) hx hb dL_minutes_1 (by decide) ?_
  refine lv_aload_n hx hb dL_minutes_2 rfl (lv_at hl 0 rfl) ?_
  refine lv_iload_n hx hb dL_minutes_3 rfl (lv_at hl 1 rfl) ?_
  refine xcXi (vx_runV (As := [.int (v)]) (rest := [.int (nI 0), .ref (o)]) ⟨hx, hb, hml, hown, hts⟩ (c_X4_minutes l D cA e0 Fc s.heap ad g tt N hX v hA hW hl9) ⟨(callB_of 1 hts gi_X4_minutes rfl rfl rfl (hts _ q_ini_X4) (hts _ q_ml_L_49) hd_X4_minutes ⟨Nat.le_of_ble_eq_true rfl, Nat.le_of_ble_eq_true rfl⟩), hts _ q_im_X4_minutes, hts _ q_sel_X4_X4_minutes⟩ (xpVn hE hS hF (hX.main) rfl) rfl rfl hl.1 rfl (lv_room (Nat.le_of_ble_eq_true rfl)) dL_minutes_4 ⟨Nat.le_of_ble_eq_true rfl, Nat.le_of_ble_eq_true rfl⟩) hS hF (fun E9 ce9 q9 H9 locs9 hPX9 hz9 hk9 hS9 hc9 hv9 hcl9 => ?_) (fun r_1 H1 locs hP9 hz9 hk9 hS => ?_)
  · obtain ⟨rfl, h1⟩ := hPX9
    refine vx_catch (E := xIAE) (name := xIAE) hown [] ⟨0, 9, 12, 13⟩ [] (by rw [htab]; rfl) (fun z hz => absurd hz List.not_mem_nil) (by decide) (by decide) (hts _ q_cl_L_13) (hts _ q_ca_java_lang_IllegalArgumentException_java_lang_IllegalArgumentException) hc9 hv9 hcl9 ?_
    have hS := hS9
    refine lv_astore_n (lv' := [(3, .ref (q9)), (0, .ref (ad 0 0)), (1, .int (v)), (2, .ref (o))]) hx hb dL_minutes_12 rfl hl (by decide) rfl (fun ls hl => ?_)
    refine lv_iconst (v := nI 1) hx hb dL_minutes_13 (by decide) ?_
    have hpost : (fun r h => (r = nI 0 ∧ ∃ f1, outW D cA o f1 h ∧ okT (N 0) v ∧ f1 0 = (rtF g (cl v)).toInt64 ∧ ∃ g2, xW D cA ad g2 tt N h ∧ svOK g g2 (N 0)) ∨ (r = nI 1 ∧ (¬ okT (N 0) v) ∧ (xW D cA ad g tt N h ∧ outW D cA o f0 h))) (nI 1) H9 := by
      exact Or.inr ((⟨rfl, h1, hX.keep (fun c j hv => hk9 _ (hX.lt hv)), hO.kept (hk9 _ hO.lt)⟩))
    refine W.widen (k := 1) (n := 6) (by omega) (by omega) ?_
    exact W.iret (v := (nI 1)) hx hb hr (fun t ht _ => ⟨⟨(nI 1), H9, rfl, hpost, ht⟩, hS.F ht⟩) hS.2.2 dL_minutes_14
  have hO1 := hO.kept (hk9 _ hO.lt hoF)
  refine lv_i2l (v := r_1.toInt64) hx hb dL_minutes_7 rfl ?_
  refine xlast (D := D) hx hb hK hS 1 (hO1) hAo rfl (i := nI 0) (x := r_1.toInt64) (vp_in_nI (n := 0) (by omega) (by omega)) dL_minutes_8 (fun H2 locs hU hS => ?_)
  rw [nI_clamp (n := 0) (by omega)] at hU
  refine lv_goto (tgt := 15) hx hb dL_minutes_9 (by decide) ?_
  refine lv_iconst (v := nI 0) hx hb dL_minutes_15 (by decide) ?_
  have hpost : (fun r h => (r = nI 0 ∧ ∃ f1, outW D cA o f1 h ∧ okT (N 0) v ∧ f1 0 = (rtF g (cl v)).toInt64 ∧ ∃ g2, xW D cA ad g2 tt N h ∧ svOK g g2 (N 0)) ∨ (r = nI 1 ∧ (¬ okT (N 0) v) ∧ (xW D cA ad g tt N h ∧ outW D cA o f0 h))) (nI 0) H2 := by
    obtain ⟨p1, hr, g2, hX2, p2⟩ := hP9
    exact Or.inl ⟨rfl, _, hU.1, p1, (by rw [pk_uLs, hr]), g2, hX2.out hA hoF hU, p2⟩
  refine W.widen (k := 1) (n := 6) (by omega) (by omega) ?_
  exact W.iret (v := (nI 0)) hx hb hr (fun t ht _ => ⟨⟨(nI 0), H2, rfl, hpost, ht⟩, hS.F ht⟩) hS.2.2 dL_minutes_16
set_option maxHeartbeats 4000000 in
set_option maxRecDepth 100000 in
/-- the law's call of best -/
theorem c_L_best (l : Launch) (D : va_G) (cA : Nat → ClassId) (e0 : Nat) (A : Nat → Prop) (H0 : Heap) (ad : Nat → Nat → Nat) (g : Nat → Nat → Int32) (tt : Nat → Int64) (N : Nat → Nat) (hX : xW D cA ad g tt N H0) (v x : Int32) (Fc : Nat → Prop) (hF : ∀ q, Fc q → A q) (hA : xA Fc e0 ad N) (hW : hwAll g (N 0)) (o : Nat) (f0 : Nat → Int64) (hO : outW D cA o f0 H0) (hAo : A o) (hoF : ¬ Fc o) (hl9 : l.stackTraces = false) : Met l yL_best w_L_best ({ frames := 8, cells := 1, slots := 6, locals := 150 } : Room) (xPn D cA e0 A H0 [.ref (ad 0 0), .int (v), .int (x), .ref (o)]) (xQi (fun r h => (r = nI 0 ∧ ∃ f1, outW D cA o f1 h ∧ (okR 0 5000 v ∧ okR 0 2000 x) ∧ f1 0 = (nI (bsF g v x (2 ^ N 0 - 1)).1).toInt64 ∧ ∃ g2, xW D cA ad g2 tt N h ∧ svOK g g2 (N 0)) ∨ (r = nI 1 ∧ (¬ (okR 0 5000 v ∧ okR 0 2000 x)) ∧ (xW D cA ad g tt N h ∧ outW D cA o f0 h))) A) 1 6 (A) := by
  refine va_MetW (hh := [(0, 10, 13, 13)]) (cc := cL_best) (maxL := 5) (ret := (some .int)) (by decide) rfl ?_
  intro p e s m args below meth c s₁ B hml hv
  obtain ⟨rfl, hH, hE, hNc⟩ := hv
  subst hH
  have hx := B.exec
  have hb := B.bytes
  have hr := B.returns
  have hts := hE.1.all ([.ref (ad 0 0), .int (v), .int (x), .ref (o)] : List Value).toArray
  have htab := vx_table (x := yL_best) B (hts _ q_co_L_best)
  have hown : s.vm.findClass RL = some m.cls := findClass_of_methodNamed B.named
  have hlocks := B.notSynchronized
  have hK := hE.2.1
  have hS : va_S A s.heap s.heap [] := va_S.rf
  have hl := lv_entry ([.ref (ad 0 0), .int (v), .int (x), .ref (o)]) (n := 5) (Nat.le_of_ble_eq_true rfl)
  rw [lg_entry_eq]
  generalize (lg_sl ([.ref (ad 0 0), .int (v), .int (x), .ref (o)]) ++ List.replicate (5 - (lg_sl ([.ref (ad 0 0), .int (v), .int (x), .ref (o)])).length) Slot.unset).toArray = ls at hl ⊢
  have hl : lv_has ls 5 [(0, .ref (ad 0 0)), (1, .int (v)), (2, .int (x)), (3, .ref (o))] := hl
  refine lv_aload_n hx hb dL_best_0 rfl (lv_at hl 3 rfl) ?_
  refine lv_iconst (v := nI 0) hx hb dL_best_1 (by decide) ?_
  refine lv_aload_n hx hb dL_best_2 rfl (lv_at hl 0 rfl) ?_
  refine lv_iload_n hx hb dL_best_3 rfl (lv_at hl 1 rfl) ?_
  refine lv_iload_n hx hb dL_best_4 rfl (lv_at hl 2 rfl) ?_
  refine xcXi (vx_runV (As := [.int (v), .int (x)]) (rest := [.int (nI 0), .ref (o)]) ⟨hx, hb, hml, hown, hts⟩ (c_X4_best l D cA e0 Fc s.heap ad g tt N hX v x hA hW hl9) ⟨(callB_of 2 hts gi_X4_best rfl rfl rfl (hts _ q_ini_X4) (hts _ q_ml_L_52) hd_X4_best ⟨Nat.le_of_ble_eq_true rfl, Nat.le_of_ble_eq_true rfl⟩), hts _ q_im_X4_best, hts _ q_sel_X4_X4_best⟩ (xpVn hE hS hF (hX.main) rfl) rfl rfl hl.1 rfl (lv_room (Nat.le_of_ble_eq_true rfl)) dL_best_5 ⟨Nat.le_of_ble_eq_true rfl, Nat.le_of_ble_eq_true rfl⟩) hS hF (fun E9 ce9 q9 H9 locs9 hPX9 hz9 hk9 hS9 hc9 hv9 hcl9 => ?_) (fun r_1 H1 locs hP9 hz9 hk9 hS => ?_)
  · obtain ⟨rfl, h1⟩ := hPX9
    refine vx_catch (E := xIAE) (name := xIAE) hown [] ⟨0, 10, 13, 13⟩ [] (by rw [htab]; rfl) (fun z hz => absurd hz List.not_mem_nil) (by decide) (by decide) (hts _ q_cl_L_13) (hts _ q_ca_java_lang_IllegalArgumentException_java_lang_IllegalArgumentException) hc9 hv9 hcl9 ?_
    have hS := hS9
    refine lv_astore (lv' := [(4, .ref (q9)), (0, .ref (ad 0 0)), (1, .int (v)), (2, .int (x)), (3, .ref (o))]) hx hb dL_best_13 hl (by decide) rfl (fun ls hl => ?_)
    refine lv_iconst (v := nI 1) hx hb dL_best_15 (by decide) ?_
    have hpost : (fun r h => (r = nI 0 ∧ ∃ f1, outW D cA o f1 h ∧ (okR 0 5000 v ∧ okR 0 2000 x) ∧ f1 0 = (nI (bsF g v x (2 ^ N 0 - 1)).1).toInt64 ∧ ∃ g2, xW D cA ad g2 tt N h ∧ svOK g g2 (N 0)) ∨ (r = nI 1 ∧ (¬ (okR 0 5000 v ∧ okR 0 2000 x)) ∧ (xW D cA ad g tt N h ∧ outW D cA o f0 h))) (nI 1) H9 := by
      exact Or.inr ((⟨rfl, h1, hX.keep (fun c j hv => hk9 _ (hX.lt hv)), hO.kept (hk9 _ hO.lt)⟩))
    refine W.widen (k := 1) (n := 6) (by omega) (by omega) ?_
    exact W.iret (v := (nI 1)) hx hb hr (fun t ht _ => ⟨⟨(nI 1), H9, rfl, hpost, ht⟩, hS.F ht⟩) hS.2.2 dL_best_16
  have hO1 := hO.kept (hk9 _ hO.lt hoF)
  refine lv_i2l (v := r_1.toInt64) hx hb dL_best_8 rfl ?_
  refine xlast (D := D) hx hb hK hS 1 (hO1) hAo rfl (i := nI 0) (x := r_1.toInt64) (vp_in_nI (n := 0) (by omega) (by omega)) dL_best_9 (fun H2 locs hU hS => ?_)
  rw [nI_clamp (n := 0) (by omega)] at hU
  refine lv_goto (tgt := 17) hx hb dL_best_10 (by decide) ?_
  refine lv_iconst (v := nI 0) hx hb dL_best_17 (by decide) ?_
  have hpost : (fun r h => (r = nI 0 ∧ ∃ f1, outW D cA o f1 h ∧ (okR 0 5000 v ∧ okR 0 2000 x) ∧ f1 0 = (nI (bsF g v x (2 ^ N 0 - 1)).1).toInt64 ∧ ∃ g2, xW D cA ad g2 tt N h ∧ svOK g g2 (N 0)) ∨ (r = nI 1 ∧ (¬ (okR 0 5000 v ∧ okR 0 2000 x)) ∧ (xW D cA ad g tt N h ∧ outW D cA o f0 h))) (nI 0) H2 := by
    obtain ⟨p1, hr, g2, hX2, p2⟩ := hP9
    exact Or.inl ⟨rfl, _, hU.1, p1, (by rw [pk_uLs, hr]), g2, hX2.out hA hoF hU, p2⟩
  refine W.widen (k := 1) (n := 6) (by omega) (by omega) ?_
  exact W.iret (v := (nI 0)) hx hb hr (fun t ht _ => ⟨⟨(nI 0), H2, rfl, hpost, ht⟩, hS.F ht⟩) hS.2.2 dL_best_18
set_option maxHeartbeats 4000000 in
set_option maxRecDepth 100000 in
/-- the law's call of go -/
theorem c_L_go (l : Launch) (D : va_G) (cA : Nat → ClassId) (e0 : Nat) (A : Nat → Prop) (H0 : Heap) (ad : Nat → Nat → Nat) (g : Nat → Nat → Int32) (tt : Nat → Int64) (N : Nat → Nat) (hX : xW D cA ad g tt N H0) (v x : Int32) (Fc : Nat → Prop) (hF : ∀ q, Fc q → A q) (hA : xA Fc e0 ad N) (hW : hwAll g (N 0)) (hI : slInv g (N 0)) (o : Nat) (f0 : Nat → Int64) (hO : outW D cA o f0 H0) (hAo : A o) (hoF : ¬ Fc o) (hl9 : l.stackTraces = false) : Met l yL_go w_L_go ({ frames := 8, cells := 2, slots := 12, locals := 147 } : Room) (xPn D cA e0 A H0 [.ref (ad 0 0), .int (v), .int (x), .ref (o)]) (xQi (fun r h => (r = nI 0 ∧ ∃ f1, outW D cA o f1 h ∧ (okT (N 0) v ∧ okR 0 2000 x) ∧ ∃ g2, svOK g g2 (N 0) ∧ f1 0 = (nI (goS (wy g) (cl v) g2 (vp_updL (vp_updL tt 1 (tt 1 + (rtF g (cl v)).toInt64)) 3 (tt 3 + 1)) (cl x) (bc (cl v))).2.2).toInt64 ∧ xW D cA ad (goS (wy g) (cl v) g2 (vp_updL (vp_updL tt 1 (tt 1 + (rtF g (cl v)).toInt64)) 3 (tt 3 + 1)) (cl x) (bc (cl v))).1 (goS (wy g) (cl v) g2 (vp_updL (vp_updL tt 1 (tt 1 + (rtF g (cl v)).toInt64)) 3 (tt 3 + 1)) (cl x) (bc (cl v))).2.1 N h) ∨ (r = nI 1 ∧ (¬ (okT (N 0) v ∧ okR 0 2000 x)) ∧ (xW D cA ad g tt N h ∧ outW D cA o f0 h))) A) 2 12 (A) := by
  refine va_MetW (hh := [(0, 10, 13, 13)]) (cc := cL_go) (maxL := 5) (ret := (some .int)) (by decide) rfl ?_
  intro p e s m args below meth c s₁ B hml hv
  obtain ⟨rfl, hH, hE, hNc⟩ := hv
  subst hH
  have hx := B.exec
  have hb := B.bytes
  have hr := B.returns
  have hts := hE.1.all ([.ref (ad 0 0), .int (v), .int (x), .ref (o)] : List Value).toArray
  have htab := vx_table (x := yL_go) B (hts _ q_co_L_go)
  have hown : s.vm.findClass RL = some m.cls := findClass_of_methodNamed B.named
  have hlocks := B.notSynchronized
  have hK := hE.2.1
  have hS : va_S A s.heap s.heap [] := va_S.rf
  have hl := lv_entry ([.ref (ad 0 0), .int (v), .int (x), .ref (o)]) (n := 5) (Nat.le_of_ble_eq_true rfl)
  rw [lg_entry_eq]
  generalize (lg_sl ([.ref (ad 0 0), .int (v), .int (x), .ref (o)]) ++ List.replicate (5 - (lg_sl ([.ref (ad 0 0), .int (v), .int (x), .ref (o)])).length) Slot.unset).toArray = ls at hl ⊢
  have hl : lv_has ls 5 [(0, .ref (ad 0 0)), (1, .int (v)), (2, .int (x)), (3, .ref (o))] := hl
  refine lv_aload_n hx hb dL_go_0 rfl (lv_at hl 3 rfl) ?_
  refine lv_iconst (v := nI 0) hx hb dL_go_1 (by decide) ?_
  refine lv_aload_n hx hb dL_go_2 rfl (lv_at hl 0 rfl) ?_
  refine lv_iload_n hx hb dL_go_3 rfl (lv_at hl 1 rfl) ?_
  refine lv_iload_n hx hb dL_go_4 rfl (lv_at hl 2 rfl) ?_
  refine xcXi (vx_runV (As := [.int (v), .int (x)]) (rest := [.int (nI 0), .ref (o)]) ⟨hx, hb, hml, hown, hts⟩ (c_X4_go l D cA e0 Fc s.heap ad g tt N hX v x hA hW hI hl9) ⟨(callB_of 2 hts gi_X4_go rfl rfl rfl (hts _ q_ini_X4) (hts _ q_ml_L_55) hd_X4_go ⟨Nat.le_of_ble_eq_true rfl, Nat.le_of_ble_eq_true rfl⟩), hts _ q_im_X4_go, hts _ q_sel_X4_X4_go⟩ (xpVn hE hS hF (hX.main) rfl) rfl rfl hl.1 rfl (lv_room (Nat.le_of_ble_eq_true rfl)) dL_go_5 ⟨Nat.le_of_ble_eq_true rfl, Nat.le_of_ble_eq_true rfl⟩) hS hF (fun E9 ce9 q9 H9 locs9 hPX9 hz9 hk9 hS9 hc9 hv9 hcl9 => ?_) (fun r_1 H1 locs hP9 hz9 hk9 hS => ?_)
  · obtain ⟨rfl, h1⟩ := hPX9
    refine vx_catch (E := xIAE) (name := xIAE) hown [] ⟨0, 10, 13, 13⟩ [] (by rw [htab]; rfl) (fun z hz => absurd hz List.not_mem_nil) (by decide) (by decide) (hts _ q_cl_L_13) (hts _ q_ca_java_lang_IllegalArgumentException_java_lang_IllegalArgumentException) hc9 hv9 hcl9 ?_
    have hS := hS9
    refine lv_astore (lv' := [(4, .ref (q9)), (0, .ref (ad 0 0)), (1, .int (v)), (2, .int (x)), (3, .ref (o))]) hx hb dL_go_13 hl (by decide) rfl (fun ls hl => ?_)
    refine lv_iconst (v := nI 1) hx hb dL_go_15 (by decide) ?_
    have hpost : (fun r h => (r = nI 0 ∧ ∃ f1, outW D cA o f1 h ∧ (okT (N 0) v ∧ okR 0 2000 x) ∧ ∃ g2, svOK g g2 (N 0) ∧ f1 0 = (nI (goS (wy g) (cl v) g2 (vp_updL (vp_updL tt 1 (tt 1 + (rtF g (cl v)).toInt64)) 3 (tt 3 + 1)) (cl x) (bc (cl v))).2.2).toInt64 ∧ xW D cA ad (goS (wy g) (cl v) g2 (vp_updL (vp_updL tt 1 (tt 1 + (rtF g (cl v)).toInt64)) 3 (tt 3 + 1)) (cl x) (bc (cl v))).1 (goS (wy g) (cl v) g2 (vp_updL (vp_updL tt 1 (tt 1 + (rtF g (cl v)).toInt64)) 3 (tt 3 + 1)) (cl x) (bc (cl v))).2.1 N h) ∨ (r = nI 1 ∧ (¬ (okT (N 0) v ∧ okR 0 2000 x)) ∧ (xW D cA ad g tt N h ∧ outW D cA o f0 h))) (nI 1) H9 := by
      exact Or.inr ((⟨rfl, h1, hX.keep (fun c j hv => hk9 _ (hX.lt hv)), hO.kept (hk9 _ hO.lt)⟩))
    refine W.widen (k := 2) (n := 12) (by omega) (by omega) ?_
    exact W.iret (v := (nI 1)) hx hb hr (fun t ht _ => ⟨⟨(nI 1), H9, rfl, hpost, ht⟩, hS.F ht⟩) hS.2.2 dL_go_16
  have hO1 := hO.kept (hk9 _ hO.lt hoF)
  refine lv_i2l (v := r_1.toInt64) hx hb dL_go_8 rfl ?_
  refine xlast (D := D) hx hb hK hS 1 (hO1) hAo rfl (i := nI 0) (x := r_1.toInt64) (vp_in_nI (n := 0) (by omega) (by omega)) dL_go_9 (fun H2 locs hU hS => ?_)
  rw [nI_clamp (n := 0) (by omega)] at hU
  refine lv_goto (tgt := 17) hx hb dL_go_10 (by decide) ?_
  refine lv_iconst (v := nI 0) hx hb dL_go_17 (by decide) ?_
  have hpost : (fun r h => (r = nI 0 ∧ ∃ f1, outW D cA o f1 h ∧ (okT (N 0) v ∧ okR 0 2000 x) ∧ ∃ g2, svOK g g2 (N 0) ∧ f1 0 = (nI (goS (wy g) (cl v) g2 (vp_updL (vp_updL tt 1 (tt 1 + (rtF g (cl v)).toInt64)) 3 (tt 3 + 1)) (cl x) (bc (cl v))).2.2).toInt64 ∧ xW D cA ad (goS (wy g) (cl v) g2 (vp_updL (vp_updL tt 1 (tt 1 + (rtF g (cl v)).toInt64)) 3 (tt 3 + 1)) (cl x) (bc (cl v))).1 (goS (wy g) (cl v) g2 (vp_updL (vp_updL tt 1 (tt 1 + (rtF g (cl v)).toInt64)) 3 (tt 3 + 1)) (cl x) (bc (cl v))).2.1 N h) ∨ (r = nI 1 ∧ (¬ (okT (N 0) v ∧ okR 0 2000 x)) ∧ (xW D cA ad g tt N h ∧ outW D cA o f0 h))) (nI 0) H2 := by
    obtain ⟨p1, g2, p2, hr, hX2⟩ := hP9
    exact Or.inl ⟨rfl, _, hU.1, p1, g2, p2, (by rw [pk_uLs, hr]), hX2.out hA hoF hU⟩
  refine W.widen (k := 2) (n := 12) (by omega) (by omega) ?_
  exact W.iret (v := (nI 0)) hx hb hr (fun t ht _ => ⟨⟨(nI 0), H2, rfl, hpost, ht⟩, hS.F ht⟩) hS.2.2 dL_go_18
set_option maxHeartbeats 4000000 in
set_option maxRecDepth 100000 in
/-- the law's call of total -/
theorem c_L_total (l : Launch) (D : va_G) (cA : Nat → ClassId) (e0 : Nat) (A : Nat → Prop) (H0 : Heap) (ad : Nat → Nat → Nat) (g : Nat → Nat → Int32) (tt : Nat → Int64) (N : Nat → Nat) (hX : xW D cA ad g tt N H0) (x : Int32) (Fc : Nat → Prop) (hF : ∀ q, Fc q → A q) (hA : xA Fc e0 ad N) (o : Nat) (f0 : Nat → Int64) (hO : outW D cA o f0 H0) (hAo : A o) (hoF : ¬ Fc o) (hl9 : l.stackTraces = false) : Met l yL_total w_L_total ({ frames := 7, cells := 1, slots := 6, locals := 121 } : Room) (xPn D cA e0 A H0 [.ref (ad 0 0), .int (x), .ref (o)]) (xQi (fun r h => (r = nI 0 ∧ ∃ f1, outW D cA o f1 h ∧ okK 3 x ∧ f1 0 = tt (cl x) ∧ xW D cA ad g tt N h) ∨ (r = nI 1 ∧ (¬ okK 3 x) ∧ (xW D cA ad g tt N h ∧ outW D cA o f0 h))) A) 1 6 (A) := by
  refine va_MetW (hh := [(0, 8, 11, 21)]) (cc := cL_total) (maxL := 4) (ret := (some .int)) (by decide) rfl ?_
  intro p e s m args below meth c s₁ B hml hv
  obtain ⟨rfl, hH, hE, hNc⟩ := hv
  subst hH
  have hx := B.exec
  have hb := B.bytes
  have hr := B.returns
  have hts := hE.1.all ([.ref (ad 0 0), .int (x), .ref (o)] : List Value).toArray
  have htab := vx_table (x := yL_total) B (hts _ q_co_L_total)
  have hown : s.vm.findClass RL = some m.cls := findClass_of_methodNamed B.named
  have hlocks := B.notSynchronized
  have hK := hE.2.1
  have hS : va_S A s.heap s.heap [] := va_S.rf
  have hl := lv_entry ([.ref (ad 0 0), .int (x), .ref (o)]) (n := 4) (Nat.le_of_ble_eq_true rfl)
  rw [lg_entry_eq]
  generalize (lg_sl ([.ref (ad 0 0), .int (x), .ref (o)]) ++ List.replicate (4 - (lg_sl ([.ref (ad 0 0), .int (x), .ref (o)])).length) Slot.unset).toArray = ls at hl ⊢
  have hl : lv_has ls 4 [(0, .ref (ad 0 0)), (1, .int (x)), (2, .ref (o))] := hl
  refine lv_aload_n hx hb dL_total_0 rfl (lv_at hl 2 rfl) ?_
  refine lv_iconst (v := nI 0) hx hb dL_total_1 (by decide) ?_
  refine lv_aload_n hx hb dL_total_2 rfl (lv_at hl 0 rfl) ?_
  refine lv_iload_n hx hb dL_total_3 rfl (lv_at hl 1 rfl) ?_
  refine xcXl (vx_runV (As := [.int (x)]) (rest := [.int (nI 0), .ref (o)]) ⟨hx, hb, hml, hown, hts⟩ (c_X4_total l D cA e0 Fc s.heap ad g tt N hX x hl9) ⟨(callB_of 1 hts gi_X4_total rfl rfl rfl (hts _ q_ini_X4) (hts _ q_ml_L_58) hd_X4_total ⟨Nat.le_of_ble_eq_true rfl, Nat.le_of_ble_eq_true rfl⟩), hts _ q_im_X4_total, hts _ q_sel_X4_X4_total⟩ (xpVn hE hS hF (hX.main) rfl) rfl rfl hl.1 rfl (lv_room (Nat.le_of_ble_eq_true rfl)) dL_total_4 ⟨Nat.le_of_ble_eq_true rfl, Nat.le_of_ble_eq_true rfl⟩) hS hF (fun E9 ce9 q9 H9 locs9 hPX9 hz9 hk9 hS9 hc9 hv9 hcl9 => ?_) (fun r_1 H1 locs hP9 hz9 hk9 hS => ?_)
  · obtain ⟨rfl, h1⟩ := hPX9
    refine vx_catch (E := xIOB) (name := xIOB) hown [] ⟨0, 8, 11, 21⟩ [] (by rw [htab]; rfl) (fun z hz => absurd hz List.not_mem_nil) (by decide) (by decide) (hts _ q_cl_L_21) (hts _ q_ca_java_lang_IndexOutOfBoundsException_java_lang_IndexOutOfBoundsException) hc9 hv9 hcl9 ?_
    have hS := hS9
    refine lv_astore_n (lv' := [(3, .ref (q9)), (0, .ref (ad 0 0)), (1, .int (x)), (2, .ref (o))]) hx hb dL_total_11 rfl hl (by decide) rfl (fun ls hl => ?_)
    refine lv_iconst (v := nI 1) hx hb dL_total_12 (by decide) ?_
    have hpost : (fun r h => (r = nI 0 ∧ ∃ f1, outW D cA o f1 h ∧ okK 3 x ∧ f1 0 = tt (cl x) ∧ xW D cA ad g tt N h) ∨ (r = nI 1 ∧ (¬ okK 3 x) ∧ (xW D cA ad g tt N h ∧ outW D cA o f0 h))) (nI 1) H9 := by
      exact Or.inr ((⟨rfl, h1, hX.keep (fun c j hv => hk9 _ (hX.lt hv)), hO.kept (hk9 _ hO.lt)⟩))
    refine W.widen (k := 1) (n := 6) (by omega) (by omega) ?_
    exact W.iret (v := (nI 1)) hx hb hr (fun t ht _ => ⟨⟨(nI 1), H9, rfl, hpost, ht⟩, hS.F ht⟩) hS.2.2 dL_total_13
  have hO1 := hO.kept (hk9 _ hO.lt hoF)
  refine xlast (D := D) hx hb hK hS 1 (hO1) hAo rfl (i := nI 0) (x := r_1) (vp_in_nI (n := 0) (by omega) (by omega)) dL_total_7 (fun H2 locs hU hS => ?_)
  rw [nI_clamp (n := 0) (by omega)] at hU
  refine lv_goto (tgt := 14) hx hb dL_total_8 (by decide) ?_
  refine lv_iconst (v := nI 0) hx hb dL_total_14 (by decide) ?_
  have hpost : (fun r h => (r = nI 0 ∧ ∃ f1, outW D cA o f1 h ∧ okK 3 x ∧ f1 0 = tt (cl x) ∧ xW D cA ad g tt N h) ∨ (r = nI 1 ∧ (¬ okK 3 x) ∧ (xW D cA ad g tt N h ∧ outW D cA o f0 h))) (nI 0) H2 := by
    obtain ⟨hHe, p1, hr⟩ := hP9
    exact Or.inl ⟨rfl, _, hU.1, p1, (by rw [pk_uLs, hr]), (show xW D cA ad g tt N H1 by rw [hHe]; exact hX).out hA hoF hU⟩
  refine W.widen (k := 1) (n := 6) (by omega) (by omega) ?_
  exact W.iret (v := (nI 0)) hx hb hr (fun t ht _ => ⟨⟨(nI 0), H2, rfl, hpost, ht⟩, hS.F ht⟩) hS.2.2 dL_total_15
