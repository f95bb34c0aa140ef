/-! ArrayList.grow and add (by p27.py) -/
theorem xcell {D : va_G} {cA : Nat → ClassId} {y ci : Nat} {r : vw_C} {vs : List Value} {H : Heap} {s : State} (hK : va_K D vwCl (xTy cA) s) (hr : vwCl[ci]? = some r) (h : va_at D vwCl (y, .inr (ci, vs)) H) : ∃ cellV : Cell, H[y]? = some cellV ∧ cellV.vm.isStatics = false ∧ s.vm.findClass r.1 = some cellV.cls := va_recv hK (xP1 h) hr (q0 := 0) rfl
set_option maxHeartbeats 4000000 in
set_option maxRecDepth 100000 in
/-- ArrayList.grow(1), empty -/
theorem c_Jx4a65c_grow_92f84_e (l : Launch) (D : va_G) (cA : Nat → ClassId) (e0 : Nat) (A : Nat → Prop) (H0 : Heap) (a0 : Nat) (mc0 : Int32) (hL : va_at D vwCl (a0, .inr (0, [.int mc0, .ref e0, .int (nI 0)])) H0) (hAa : A a0) (hAn : ∀ q, H0.size ≤ q → A q) : Met l yJx4a65c_grow_92f84 w_Jx4a65c_grow_92f84 ({ frames := 3, cells := 1, slots := 10, locals := 84 } : Room) (xPc D cA e0 A H0 [.ref (a0), .int (nI (1))]) (xQr (fun r h => H0.size ≤ r ∧ va_at D vwCl (a0, .inr (0, [.int mc0, .ref r, .int (nI 0)])) h ∧ va_at D vwCl (r, .inl (cA 2, 10, .inr (.inr (.inr (.inr (fun _ => none)))))) h) A) 1 10 (A) := by
  refine Met.ofW (cc := cJx4a65c_grow_92f84) (maxL := 4) (ret := (some (.array (.object "java/lang/Object")))) (by decide) rfl ?_
  intro p e s m args below meth c s₁ B hml hv
  obtain ⟨rfl, hH, hE⟩ := hv
  subst hH
  have hx := B.exec
  have hb := B.bytes
  have hr := B.returns
  have hts := hE.1.all ([.ref (a0), .int (nI (1))] : List Value).toArray
  have hown : s.vm.findClass RJx4a65c = some m.cls := findClass_of_methodNamed B.named
  have hlocks := B.notSynchronized
  have hK := hE.2.1
  have hS : va_S A s.heap s.heap [] := va_S.rf
  have hl := lv_entry ([.ref (a0), .int (nI (1))]) (n := 4) (Nat.le_of_ble_eq_true rfl)
  rw [lg_entry_eq]
  generalize (lg_sl ([.ref (a0), .int (nI (1))]) ++ List.replicate (4 - (lg_sl ([.ref (a0), .int (nI (1))])).length) Slot.unset).toArray = ls at hl ⊢
  have hl : lv_has ls 4 [(0, .ref (a0)), (1, .int (nI (1)))] := hl
  refine lv_aload_n hx hb dJx4a65c_grow_92f84_0 rfl (lv_at hl 0 rfl) ?_
  refine va_get (D := D) (ci := 0) (v := .ref (e0)) (C := RJx4a65c) (T := TJx4a65c) (N := 3) hx hb hts qi_Jx4a65c hown hK (xP1 hL) 0 rfl rfl 1 (by decide) (hts _ q_fl_Jx4a65c_9) (fun _ h9 => h9) rfl dJx4a65c_grow_92f84_1 ?_
  refine va_tlen hx hb hE.2.2.2.2.2.1 hS (v := nI 0) rfl dJx4a65c_grow_92f84_4 ?_
  refine lv_istore_n (lv' := [(2, .int (nI 0)), (0, .ref (a0)), (1, .int (nI (1)))]) hx hb dJx4a65c_grow_92f84_5 rfl hl (by decide) rfl (fun ls hl => ?_)
  refine lv_iload_n hx hb dJx4a65c_grow_92f84_6 rfl (lv_at hl 0 rfl) ?_
  refine lv_if_gt (tgt := 20) hx hb dJx4a65c_grow_92f84_7 (by decide) (fun hno => absurd hno ((by decide))) (fun _ => ?_)
  refine lv_aload_n hx hb dJx4a65c_grow_92f84_10 rfl (lv_at hl 1 rfl) ?_
  refine va_get (D := D) (ci := 0) (v := .ref (e0)) (C := RJx4a65c) (T := TJx4a65c) (N := 3) hx hb hts qi_Jx4a65c hown hK (xP1 hL) 0 rfl rfl 1 (by decide) (hts _ q_fl_Jx4a65c_9) (fun _ h9 => h9) rfl dJx4a65c_grow_92f84_11 ?_
  refine va_gets hx hb hE.2.2.2.2.1 hS hown (hts _ q_fl_Jx4a65c_39) (fun _ h => h) dJx4a65c_grow_92f84_14 ?_
  refine lv_acmp_eq (rx := some e0) (ry := some e0) (tgt := 45) hx hb dJx4a65c_grow_92f84_17 (by decide) (fun _ => ?_) (fun hno => absurd rfl hno)
  refine lv_aload_n hx hb dJx4a65c_grow_92f84_45 rfl (lv_at hl 1 rfl) ?_
  refine lv_bipush (v := nI 10) hx hb dJx4a65c_grow_92f84_46 (by decide) ?_
  refine lv_iload_n hx hb dJx4a65c_grow_92f84_48 rfl (lv_at hl 2 rfl) ?_
  refine va_mmax hx hb (hml.trans hl.1.symm) hown (hts _ q_ml_Jx4a65c_79) (hts _ q_st_J9_max_7cf53) (hts _ q_ini_J9) (hts _ q_co_max) (Nat.le_of_ble_eq_true rfl) (Nat.le_of_ble_eq_true rfl) (Nat.le_of_ble_eq_true rfl) (Nat.le_of_ble_eq_true rfl) dJx4a65c_grow_92f84_49 ?_
  refine xtop (show (if nI 10 < nI (1) then nI (1) else nI 10) = nI (10) from by decide) ?_
  refine xnewq (D := D) hx hb hown (hts _ q_cl_Jx4a65c_7) hE.2.2.2.2.2.2.1 hK hS 2 rfl (nI_pos (by omega)) (nI_clamp (n := 10) (by omega)) (Nat.le_of_ble_eq_true rfl) (Nat.le_of_ble_eq_true rfl) (Nat.le_of_ble_eq_true rfl) dJx4a65c_grow_92f84_52 (fun q1 H1 hN hS => ?_)
  have hq0 : s.heap.size ≤ q1 := by rw [hN.2.1]; exact Nat.le_refl _
  have hne2 : q1 ≠ a0 := by
    rw [hN.2.1]
    have := hL.lt
    omega
  have hL := hL.kept (hN.2.2.2 _ hL.lt)
  have hQ := hN.1
  refine lv_dup_x1 hx hb dJx4a65c_grow_92f84_55 rfl rfl ?_
  refine xput (D := D) (ci := 0) (v := .ref (q1)) (C := RJx4a65c) (T := TJx4a65c) (N := 3) hx hb hts qi_Jx4a65c tyJx4a65c tyJx4a65c_ok nmJx4a65c hown hK hS hL hAa rfl 1 (by decide) (hts _ q_fl_Jx4a65c_9) (fun _ h9 => h9) rfl (tyJx4a65c_ok 1 (by decide)) rfl rfl (Nat.le_of_ble_eq_true rfl) dJx4a65c_grow_92f84_56 (fun H2 locs hU hS => ?_)
  have hL := hU.1
  have hQ := hQ.kept (hU.2.2 _ hne2)
  have hpost : (fun r h => s.heap.size ≤ r ∧ va_at D vwCl (a0, .inr (0, [.int mc0, .ref r, .int (nI 0)])) h ∧ va_at D vwCl (r, .inl (cA 2, 10, .inr (.inr (.inr (.inr (fun _ => none)))))) h) (q1) H2 := by
    exact ⟨hq0, hL, hQ⟩
  refine W.widen (k := 1) (n := 10) (by omega) (by omega) ?_
  exact W.aret (v := .ref q1) hx hb hr (Or.inr ⟨_, rfl⟩) (Or.inr ⟨_, rfl⟩) (fun t ht _ => ⟨⟨H2, q1, rfl, trivial, hpost, ht⟩, hS.F ht⟩) hS.2.2 dJx4a65c_grow_92f84_59
set_option maxHeartbeats 4000000 in
set_option maxRecDepth 100000 in
/-- ArrayList.grow(n), full -/
theorem c_Jx4a65c_grow_92f84_f (l : Launch) (D : va_G) (cA : Nat → ClassId) (e0 : Nat) (A : Nat → Prop) (H0 : Heap) (a0 : Nat) (mc0 : Int32) (dr cap : Nat) (hL : va_at D vwCl (a0, .inr (0, [.int mc0, .ref dr, .int (nI cap)])) H0) (hAa : A a0) (f : Nat → Option Nat) (hF : va_at D vwCl (dr, .inl (cA 2, cap, .inr (.inr (.inr (.inr f))))) H0) (hAd : A dr) (hne : a0 ≠ dr) (r9 : vw_C) (ci : Nat) (hci : vwCl[ci]? = some r9) (hca : Cond.castable r9.1 "java/lang/Object" ∈ xTs) (hEl : xEl D r9 ci f cap H0) (hc : 10 ≤ cap ∧ cap ≤ 15) (hAn : ∀ q, H0.size ≤ q → A q) : Met l yJx4a65c_grow_92f84 w_Jx4a65c_grow_92f84 ({ frames := 3, cells := 1, slots := 22, locals := 84 } : Room) (xPc D cA e0 A H0 [.ref (a0), .int (nI (cap + 1))]) (xQr (fun r h => H0.size ≤ r ∧ va_at D vwCl (a0, .inr (0, [.int mc0, .ref r, .int (nI cap)])) h ∧ va_at D vwCl (r, .inl (cA 2, (cap + cap / 2), .inr (.inr (.inr (.inr (fun j => if j < cap then f j else none)))))) h) A) 1 22 (A) := by
  refine Met.ofW (cc := cJx4a65c_grow_92f84) (maxL := 4) (ret := (some (.array (.object "java/lang/Object")))) (by decide) rfl ?_
  intro p e s m args below meth c s₁ B hml hv
  obtain ⟨rfl, hH, hE⟩ := hv
  subst hH
  have hx := B.exec
  have hb := B.bytes
  have hr := B.returns
  have hts := hE.1.all ([.ref (a0), .int (nI (cap + 1))] : List Value).toArray
  have hown : s.vm.findClass RJx4a65c = some m.cls := findClass_of_methodNamed B.named
  have hlocks := B.notSynchronized
  have hK := hE.2.1
  have hS : va_S A s.heap s.heap [] := va_S.rf
  have hl := lv_entry ([.ref (a0), .int (nI (cap + 1))]) (n := 4) (Nat.le_of_ble_eq_true rfl)
  rw [lg_entry_eq]
  generalize (lg_sl ([.ref (a0), .int (nI (cap + 1))]) ++ List.replicate (4 - (lg_sl ([.ref (a0), .int (nI (cap + 1))])).length) Slot.unset).toArray = ls at hl ⊢
  have hl : lv_has ls 4 [(0, .ref (a0)), (1, .int (nI (cap + 1)))] := hl
  refine lv_aload_n hx hb dJx4a65c_grow_92f84_0 rfl (lv_at hl 0 rfl) ?_
  refine va_get (D := D) (ci := 0) (v := .ref (dr)) (C := RJx4a65c) (T := TJx4a65c) (N := 3) hx hb hts qi_Jx4a65c hown hK (xP1 hL) 0 rfl rfl 1 (by decide) (hts _ q_fl_Jx4a65c_9) (fun _ h9 => h9) rfl dJx4a65c_grow_92f84_1 ?_
  refine va_alen hx hb hK (xP1 hF) 0 2 rfl rfl (v := nI (cap)) rfl dJx4a65c_grow_92f84_4 ?_
  refine lv_istore_n (lv' := [(2, .int (nI (cap))), (0, .ref (a0)), (1, .int (nI (cap + 1)))]) hx hb dJx4a65c_grow_92f84_5 rfl hl (by decide) rfl (fun ls hl => ?_)
  refine lv_iload_n hx hb dJx4a65c_grow_92f84_6 rfl (lv_at hl 0 rfl) ?_
  refine lv_if_gt (tgt := 20) hx hb dJx4a65c_grow_92f84_7 (by decide) (fun _ => ?_) (fun hno => absurd ((nI_ltI (a := 0) (b := cap) (by omega) (by omega)).mpr (by omega)) hno)
  refine lv_iload_n hx hb dJx4a65c_grow_92f84_20 rfl (lv_at hl 0 rfl) ?_
  refine lv_iload_n hx hb dJx4a65c_grow_92f84_21 rfl (lv_at hl 2 rfl) ?_
  refine lv_iload_n hx hb dJx4a65c_grow_92f84_22 rfl (lv_at hl 0 rfl) ?_
  refine lv_isub hx hb dJx4a65c_grow_92f84_23 ?_
  refine xtop (show ((nI (cap + 1)) - (nI (cap))) = nI (1) from by rw [pk_sub (by omega), show cap + 1 - cap = 1 by omega]) ?_
  refine lv_iload_n hx hb dJx4a65c_grow_92f84_24 rfl (lv_at hl 0 rfl) ?_
  refine lv_iconst (v := nI 1) hx hb dJx4a65c_grow_92f84_25 (by decide) ?_
  refine lv_ishr hx hb dJx4a65c_grow_92f84_26 ?_
  refine xtop (show ((nI (cap)) >>> (nI 1 &&& 31)) = nI (cap / 2) from sh_1 cap (by omega)) ?_
  refine xcRi (va_runS (As := [.int (nI (cap)), .int (nI (1)), .int (nI (cap / 2))]) (rest := []) ⟨hx, hb, hml, hown, hts⟩ (c_J8_newLength_cabcc l D cA e0 A s.heap cap 1 (cap / 2) (by omega) (by omega)) ⟨(callB_of 3 hts gi_J8_newLength_cabcc rfl rfl rfl (hts _ q_ini_J8) (hts _ q_ml_Jx4a65c_73) hd_J8_newLength_cabcc ⟨Nat.le_of_ble_eq_true rfl, Nat.le_of_ble_eq_true rfl⟩), hts _ q_st_J8_newLength_cabcc⟩ (xpS hE hS) rfl rfl hl.1 rfl (lv_room (Nat.le_of_ble_eq_true rfl)) dJx4a65c_grow_92f84_27 ⟨Nat.le_of_ble_eq_true rfl, Nat.le_of_ble_eq_true rfl⟩) ?_
  refine xtop (show (nI (cap + max 1 (cap / 2))) = nI (cap + cap / 2) from by rw [Nat.max_eq_right (by omega)]) ?_
  refine lv_istore_n (lv' := [(3, .int (nI (cap + cap / 2))), (2, .int (nI (cap))), (0, .ref (a0)), (1, .int (nI (cap + 1)))]) hx hb dJx4a65c_grow_92f84_30 rfl hl (by decide) rfl (fun ls hl => ?_)
  refine lv_aload_n hx hb dJx4a65c_grow_92f84_31 rfl (lv_at hl 2 rfl) ?_
  refine lv_aload_n hx hb dJx4a65c_grow_92f84_32 rfl (lv_at hl 2 rfl) ?_
  refine va_get (D := D) (ci := 0) (v := .ref (dr)) (C := RJx4a65c) (T := TJx4a65c) (N := 3) hx hb hts qi_Jx4a65c hown hK (xP1 hL) 0 rfl rfl 1 (by decide) (hts _ q_fl_Jx4a65c_9) (fun _ h9 => h9) rfl dJx4a65c_grow_92f84_33 ?_
  refine lv_iload_n hx hb dJx4a65c_grow_92f84_36 rfl (lv_at hl 0 rfl) ?_
  have hFA : ∀ q, (q = dr ∨ s.heap.size ≤ q) → A q := fun q z => z.elim (fun z => z ▸ hAd) (fun z => hAn q z)
  refine xcr (va_runS (As := [.ref (dr), .int (nI (cap + cap / 2))]) (rest := [.ref (a0)]) ⟨hx, hb, hml, hown, hts⟩ (c_J7_copyOf_1904c l D cA e0 (fun q => q = dr ∨ s.heap.size ≤ q) s.heap dr cap f hF r9 ci hci hca hEl (Or.inl rfl) (cap + cap / 2) (by omega) (by omega) (fun q h => Or.inr h)) ⟨(callB_of 2 hts gi_J7_copyOf_1904c rfl rfl rfl (hts _ q_ini_J7) (hts _ q_ml_Jx4a65c_66) hd_J7_copyOf_1904c ⟨Nat.le_of_ble_eq_true rfl, Nat.le_of_ble_eq_true rfl⟩), hts _ q_st_J7_copyOf_1904c⟩ (xpSn hE hS hFA) rfl rfl hl.1 rfl (lv_room (Nat.le_of_ble_eq_true rfl)) dJx4a65c_grow_92f84_37 ⟨Nat.le_of_ble_eq_true rfl, Nat.le_of_ble_eq_true rfl⟩) hS hFA (fun r_1 H1 locs hP9 hz9 hk9 hS => ?_)
  obtain ⟨hq0, hQ⟩ := hP9
  have hLl := hL.lt
  have hL := hL.kept (hk9 a0 hL.lt (fun z => z.elim hne (fun z => by omega)))
  have hne2 : r_1 ≠ a0 := by omega
  refine lv_dup_x1 hx hb dJx4a65c_grow_92f84_40 rfl rfl ?_
  refine xput (D := D) (ci := 0) (v := .ref (r_1)) (C := RJx4a65c) (T := TJx4a65c) (N := 3) hx hb hts qi_Jx4a65c tyJx4a65c tyJx4a65c_ok nmJx4a65c hown hK hS hL hAa rfl 1 (by decide) (hts _ q_fl_Jx4a65c_9) (fun _ h9 => h9) rfl (tyJx4a65c_ok 1 (by decide)) rfl rfl (Nat.le_of_ble_eq_true rfl) dJx4a65c_grow_92f84_41 (fun H2 locs hU hS => ?_)
  have hL := hU.1
  have hQ := hQ.kept (hU.2.2 _ hne2)
  have hpost : (fun r h => s.heap.size ≤ r ∧ va_at D vwCl (a0, .inr (0, [.int mc0, .ref r, .int (nI cap)])) h ∧ va_at D vwCl (r, .inl (cA 2, (cap + cap / 2), .inr (.inr (.inr (.inr (fun j => if j < cap then f j else none)))))) h) (r_1) H2 := by
    exact ⟨hq0, hL, hQ⟩
  refine W.widen (k := 1) (n := 22) (by omega) (by omega) ?_
  exact W.aret (v := .ref r_1) hx hb hr (Or.inr ⟨_, rfl⟩) (Or.inr ⟨_, rfl⟩) (fun t ht _ => ⟨⟨H2, r_1, rfl, trivial, hpost, ht⟩, hS.F ht⟩) hS.2.2 dJx4a65c_grow_92f84_44
set_option maxHeartbeats 4000000 in
set_option maxRecDepth 100000 in
/-- ArrayList.grow(), full -/
theorem c_Jx4a65c_grow_d5877_f (l : Launch) (D : va_G) (cA : Nat → ClassId) (e0 : Nat) (A : Nat → Prop) (H0 : Heap) (a0 : Nat) (mc0 : Int32) (dr cap : Nat) (hL : va_at D vwCl (a0, .inr (0, [.int mc0, .ref dr, .int (nI cap)])) H0) (hAa : A a0) (f : Nat → Option Nat) (hF : va_at D vwCl (dr, .inl (cA 2, cap, .inr (.inr (.inr (.inr f))))) H0) (hAd : A dr) (hne : a0 ≠ dr) (r9 : vw_C) (ci : Nat) (hci : vwCl[ci]? = some r9) (hca : Cond.castable r9.1 "java/lang/Object" ∈ xTs) (hEl : xEl D r9 ci f cap H0) (hc : 10 ≤ cap ∧ cap ≤ 15) (hAn : ∀ q, H0.size ≤ q → A q) : Met l yJx4a65c_grow_d5877 w_Jx4a65c_grow_d5877 ({ frames := 4, cells := 1, slots := 22, locals := 107 } : Room) (xPc D cA e0 A H0 [.ref (a0)]) (xQr (fun r h => H0.size ≤ r ∧ va_at D vwCl (a0, .inr (0, [.int mc0, .ref r, .int (nI cap)])) h ∧ va_at D vwCl (r, .inl (cA 2, (cap + cap / 2), .inr (.inr (.inr (.inr (fun j => if j < cap then f j else none)))))) h) A) 1 22 (A) := by
  refine Met.ofW (cc := cJx4a65c_grow_d5877) (maxL := 1) (ret := (some (.array (.object "java/lang/Object")))) (by decide) rfl ?_
  intro p e s m args below meth c s₁ B hml hv
  obtain ⟨rfl, hH, hE⟩ := hv
  subst hH
  have hx := B.exec
  have hb := B.bytes
  have hr := B.returns
  have hts := hE.1.all ([.ref (a0)] : List Value).toArray
  have hown : s.vm.findClass RJx4a65c = some m.cls := findClass_of_methodNamed B.named
  have hlocks := B.notSynchronized
  have hK := hE.2.1
  have hS : va_S A s.heap s.heap [] := va_S.rf
  have hl := lv_entry ([.ref (a0)]) (n := 1) (Nat.le_of_ble_eq_true rfl)
  rw [lg_entry_eq]
  generalize (lg_sl ([.ref (a0)]) ++ List.replicate (1 - (lg_sl ([.ref (a0)])).length) Slot.unset).toArray = ls at hl ⊢
  have hl : lv_has ls 1 [(0, .ref (a0))] := hl
  refine lv_aload_n hx hb dJx4a65c_grow_d5877_0 rfl (lv_at hl 0 rfl) ?_
  refine lv_aload_n hx hb dJx4a65c_grow_d5877_1 rfl (lv_at hl 0 rfl) ?_
  refine va_get (D := D) (ci := 0) (v := .int (nI (cap))) (C := RJx4a65c) (T := TJx4a65c) (N := 3) hx hb hts qi_Jx4a65c hown hK (xP1 hL) 0 rfl rfl 2 (by decide) (hts _ q_fl_Jx4a65c_48) (fun _ h9 => h9) rfl dJx4a65c_grow_d5877_2 ?_
  refine lv_iconst (v := nI 1) hx hb dJx4a65c_grow_d5877_5 (by decide) ?_
  refine lv_iadd hx hb dJx4a65c_grow_d5877_6 ?_
  refine xtop (show ((nI (cap)) + (nI 1)) = nI (cap + 1) from nI_add cap 1) ?_
  refine xcr (va_runV (As := [.int (nI (cap + 1))]) (rest := []) ⟨hx, hb, hml, hown, hts⟩ (c_Jx4a65c_grow_92f84_f l D cA e0 A s.heap a0 mc0 dr cap hL hAa f hF hAd hne r9 ci hci hca hEl hc hAn) ⟨(callB_of 1 hts gi_Jx4a65c_grow_92f84 rfl rfl rfl (hts _ q_ini_Jx4a65c) (hts _ q_ml_Jx4a65c_69) hd_Jx4a65c_grow_92f84 ⟨Nat.le_of_ble_eq_true rfl, Nat.le_of_ble_eq_true rfl⟩), hts _ q_im_Jx4a65c_grow_92f84, hts _ q_sel_Jx4a65c_Jx4a65c_grow_92f84⟩ (xpV hE hS hL rfl) rfl rfl hl.1 rfl (lv_room (Nat.le_of_ble_eq_true rfl)) dJx4a65c_grow_d5877_7 ⟨Nat.le_of_ble_eq_true rfl, Nat.le_of_ble_eq_true rfl⟩) hS (fun q h => h) (fun r_1 H1 locs hP9 hz9 hk9 hS => ?_)
  have hpost : (fun r h => s.heap.size ≤ r ∧ va_at D vwCl (a0, .inr (0, [.int mc0, .ref r, .int (nI cap)])) h ∧ va_at D vwCl (r, .inl (cA 2, (cap + cap / 2), .inr (.inr (.inr (.inr (fun j => if j < cap then f j else none)))))) h) (r_1) H1 := by
    exact hP9
  refine W.widen (k := 1) (n := 22) (by omega) (by omega) ?_
  exact W.aret (v := .ref r_1) hx hb hr (Or.inr ⟨_, rfl⟩) (Or.inr ⟨_, rfl⟩) (fun t ht _ => ⟨⟨H1, r_1, rfl, trivial, hpost, ht⟩, hS.F ht⟩) hS.2.2 dJx4a65c_grow_d5877_10
set_option maxHeartbeats 4000000 in
set_option maxRecDepth 100000 in
/-- ArrayList.grow(), empty -/
theorem c_Jx4a65c_grow_d5877_e (l : Launch) (D : va_G) (cA : Nat → ClassId) (e0 : Nat) (A : Nat → Prop) (H0 : Heap) (a0 : Nat) (mc0 : Int32) (hL : va_at D vwCl (a0, .inr (0, [.int mc0, .ref e0, .int (nI 0)])) H0) (hAa : A a0) (hAn : ∀ q, H0.size ≤ q → A q) : Met l yJx4a65c_grow_d5877 w_Jx4a65c_grow_d5877 ({ frames := 4, cells := 1, slots := 10, locals := 107 } : Room) (xPc D cA e0 A H0 [.ref (a0)]) (xQr (fun r h => H0.size ≤ r ∧ va_at D vwCl (a0, .inr (0, [.int mc0, .ref r, .int (nI 0)])) h ∧ va_at D vwCl (r, .inl (cA 2, 10, .inr (.inr (.inr (.inr (fun _ => none)))))) h) A) 1 10 (A) := by
  refine Met.ofW (cc := cJx4a65c_grow_d5877) (maxL := 1) (ret := (some (.array (.object "java/lang/Object")))) (by decide) rfl ?_
  intro p e s m args below meth c s₁ B hml hv
  obtain ⟨rfl, hH, hE⟩ := hv
  subst hH
  have hx := B.exec
  have hb := B.bytes
  have hr := B.returns
  have hts := hE.1.all ([.ref (a0)] : List Value).toArray
  have hown : s.vm.findClass RJx4a65c = some m.cls := findClass_of_methodNamed B.named
  have hlocks := B.notSynchronized
  have hK := hE.2.1
  have hS : va_S A s.heap s.heap [] := va_S.rf
  have hl := lv_entry ([.ref (a0)]) (n := 1) (Nat.le_of_ble_eq_true rfl)
  rw [lg_entry_eq]
  generalize (lg_sl ([.ref (a0)]) ++ List.replicate (1 - (lg_sl ([.ref (a0)])).length) Slot.unset).toArray = ls at hl ⊢
  have hl : lv_has ls 1 [(0, .ref (a0))] := hl
  refine lv_aload_n hx hb dJx4a65c_grow_d5877_0 rfl (lv_at hl 0 rfl) ?_
  refine lv_aload_n hx hb dJx4a65c_grow_d5877_1 rfl (lv_at hl 0 rfl) ?_
  refine va_get (D := D) (ci := 0) (v := .int (nI (0))) (C := RJx4a65c) (T := TJx4a65c) (N := 3) hx hb hts qi_Jx4a65c hown hK (xP1 hL) 0 rfl rfl 2 (by decide) (hts _ q_fl_Jx4a65c_48) (fun _ h9 => h9) rfl dJx4a65c_grow_d5877_2 ?_
  refine lv_iconst (v := nI 1) hx hb dJx4a65c_grow_d5877_5 (by decide) ?_
  refine lv_iadd hx hb dJx4a65c_grow_d5877_6 ?_
  refine xtop (show ((nI (0)) + (nI 1)) = nI (1) from rfl) ?_
  refine xcr (va_runV (As := [.int (nI (1))]) (rest := []) ⟨hx, hb, hml, hown, hts⟩ (c_Jx4a65c_grow_92f84_e l D cA e0 A s.heap a0 mc0 hL hAa hAn) ⟨(callB_of 1 hts gi_Jx4a65c_grow_92f84 rfl rfl rfl (hts _ q_ini_Jx4a65c) (hts _ q_ml_Jx4a65c_69) hd_Jx4a65c_grow_92f84 ⟨Nat.le_of_ble_eq_true rfl, Nat.le_of_ble_eq_true rfl⟩), hts _ q_im_Jx4a65c_grow_92f84, hts _ q_sel_Jx4a65c_Jx4a65c_grow_92f84⟩ (xpV hE hS hL rfl) rfl rfl hl.1 rfl (lv_room (Nat.le_of_ble_eq_true rfl)) dJx4a65c_grow_d5877_7 ⟨Nat.le_of_ble_eq_true rfl, Nat.le_of_ble_eq_true rfl⟩) hS (fun q h => h) (fun r_1 H1 locs hP9 hz9 hk9 hS => ?_)
  have hpost : (fun r h => s.heap.size ≤ r ∧ va_at D vwCl (a0, .inr (0, [.int mc0, .ref r, .int (nI 0)])) h ∧ va_at D vwCl (r, .inl (cA 2, 10, .inr (.inr (.inr (.inr (fun _ => none)))))) h) (r_1) H1 := by
    exact hP9
  refine W.widen (k := 1) (n := 10) (by omega) (by omega) ?_
  exact W.aret (v := .ref r_1) hx hb hr (Or.inr ⟨_, rfl⟩) (Or.inr ⟨_, rfl⟩) (fun t ht _ => ⟨⟨H1, r_1, rfl, trivial, hpost, ht⟩, hS.F ht⟩) hS.2.2 dJx4a65c_grow_d5877_10
set_option maxHeartbeats 4000000 in
set_option maxRecDepth 100000 in
/-- ArrayList.add(v, es, n) _r -/
theorem c_Jx4a65c_add_72be8_r (l : Launch) (D : va_G) (cA : Nat → ClassId) (e0 : Nat) (A : Nat → Prop) (H0 : Heap) (a0 : Nat) (mc0 : Int32) (dr n cap : Nat) (hL : va_at D vwCl (a0, .inr (0, [.int mc0, .ref dr, .int (nI n)])) H0) (hAa : A a0) (f : Nat → Option Nat) (hF : va_at D vwCl (dr, .inl (cA 2, cap, .inr (.inr (.inr (.inr f))))) H0) (hAd : A dr) (hne : a0 ≠ dr) (r9 : vw_C) (ci : Nat) (hci : vwCl[ci]? = some r9) (hca : Cond.castable r9.1 "java/lang/Object" ∈ xTs) (hn : n < cap) (hc : cap ≤ 30) (v0 : Nat) (vs : List Value) (hV : va_at D vwCl (v0, .inr (ci, vs)) H0) (hv : v0 ≠ a0) (hAv : ¬ A v0) : Met l yJx4a65c_add_72be8 w_Jx4a65c_add_72be8 ({ frames := 5, cells := 0, slots := 0, locals := 127 } : Room) (xPc D cA e0 A H0 [.ref (a0), .ref (v0), .ref (dr), .int (nI (n))]) (xQv (fun h => va_at D vwCl (a0, .inr (0, [.int mc0, .ref dr, .int (nI (n + 1))])) h ∧ va_at D vwCl (dr, .inl (cA 2, cap, .inr (.inr (.inr (.inr (va_up f n (some v0))))))) h) A) 0 0 (A) := by
  refine Met.ofW (cc := cJx4a65c_add_72be8) (maxL := 4) (ret := none) (by decide) rfl ?_
  intro p e s m args below meth c s₁ B hml hv
  obtain ⟨rfl, hH, hE⟩ := hv
  subst hH
  have hx := B.exec
  have hb := B.bytes
  have hr := B.returns
  have hts := hE.1.all ([.ref (a0), .ref (v0), .ref (dr), .int (nI (n))] : List Value).toArray
  have hown : s.vm.findClass RJx4a65c = some m.cls := findClass_of_methodNamed B.named
  have hlocks := B.notSynchronized
  have hK := hE.2.1
  have hS : va_S A s.heap s.heap [] := va_S.rf
  have hl := lv_entry ([.ref (a0), .ref (v0), .ref (dr), .int (nI (n))]) (n := 4) (Nat.le_of_ble_eq_true rfl)
  rw [lg_entry_eq]
  generalize (lg_sl ([.ref (a0), .ref (v0), .ref (dr), .int (nI (n))]) ++ List.replicate (4 - (lg_sl ([.ref (a0), .ref (v0), .ref (dr), .int (nI (n))])).length) Slot.unset).toArray = ls at hl ⊢
  have hl : lv_has ls 4 [(0, .ref (a0)), (1, .ref (v0)), (2, .ref (dr)), (3, .int (nI (n)))] := hl
  have hLl := hL.lt
  refine lv_iload_n hx hb dJx4a65c_add_72be8_0 rfl (lv_at hl 3 rfl) ?_
  refine lv_aload_n hx hb dJx4a65c_add_72be8_1 rfl (lv_at hl 2 rfl) ?_
  refine va_alen hx hb hK (xP1 hF) 0 2 rfl rfl (v := nI (cap)) rfl dJx4a65c_add_72be8_2 ?_
  refine lv_icmp_ne (tgt := 11) hx hb dJx4a65c_add_72be8_3 (by decide) (fun _ => ?_) (fun hno => absurd hno ((fun z => absurd ((nI_eq (a := n) (b := cap) (by omega) (by omega)).mp z) (by omega))))
  refine lv_aload_n hx hb dJx4a65c_add_72be8_11 rfl (lv_at hl 2 rfl) ?_
  refine lv_iload_n hx hb dJx4a65c_add_72be8_12 rfl (lv_at hl 3 rfl) ?_
  refine lv_aload_n hx hb dJx4a65c_add_72be8_13 rfl (lv_at hl 1 rfl) ?_
  refine vb_astq (D := D) hx hb hK (xP2 hF hL) (xD2 (Ne.symm hne) hAd hAa) hS 0 2 (E := "java/lang/Object") (C := r9.1) rfl rfl (xcell hK hci hV) (xcast hE.1 hca) (i := nI n) (vp_in_nI (n := n) (by omega) (by omega)) dJx4a65c_add_72be8_14 (fun H8 locs hP8 _ hS => ?_)
  rw [nI_clamp (n := n) (by omega)] at hP8
  have hF := hP8 0 _ rfl
  have hL := hP8 1 _ rfl
  refine lv_aload_n hx hb dJx4a65c_add_72be8_15 rfl (lv_at hl 0 rfl) ?_
  refine lv_iload_n hx hb dJx4a65c_add_72be8_16 rfl (lv_at hl 3 rfl) ?_
  refine lv_iconst (v := nI 1) hx hb dJx4a65c_add_72be8_17 (by decide) ?_
  refine lv_iadd hx hb dJx4a65c_add_72be8_18 ?_
  refine xtop (show ((nI (n)) + (nI 1)) = nI (n + 1) from nI_add n 1) ?_
  refine xput (D := D) (ci := 0) (v := .int (nI (n + 1))) (C := RJx4a65c) (T := TJx4a65c) (N := 3) hx hb hts qi_Jx4a65c tyJx4a65c tyJx4a65c_ok nmJx4a65c hown hK hS hL hAa rfl 2 (by decide) (hts _ q_fl_Jx4a65c_48) (fun _ h9 => h9) rfl (tyJx4a65c_ok 2 (by decide)) rfl rfl (Nat.le_of_ble_eq_true rfl) dJx4a65c_add_72be8_19 (fun H1 locs hU hS => ?_)
  have hL := hU.1
  have hF := hF.kept (hU.2.2 _ (Ne.symm hne))
  have hpost : (fun h => va_at D vwCl (a0, .inr (0, [.int mc0, .ref dr, .int (nI (n + 1))])) h ∧ va_at D vwCl (dr, .inl (cA 2, cap, .inr (.inr (.inr (.inr (va_up f n (some v0))))))) h) H1 := by
    exact ⟨hL, hF⟩
  refine W.widen (k := 0) (n := 0) (by omega) (by omega) ?_
  exact W.vret hx hb hr (fun t ht _ => ⟨⟨H1, rfl, hpost, ht⟩, hS.F ht⟩) hS.2.2 dJx4a65c_add_72be8_22
set_option maxHeartbeats 4000000 in
set_option maxRecDepth 100000 in
/-- ArrayList.add(v) _r -/
theorem c_Jx4a65c_add_9ea2d_r (l : Launch) (D : va_G) (cA : Nat → ClassId) (e0 : Nat) (A : Nat → Prop) (H0 : Heap) (a0 : Nat) (mc0 : Int32) (dr n cap : Nat) (hL : va_at D vwCl (a0, .inr (0, [.int mc0, .ref dr, .int (nI n)])) H0) (hAa : A a0) (f : Nat → Option Nat) (hF : va_at D vwCl (dr, .inl (cA 2, cap, .inr (.inr (.inr (.inr f))))) H0) (hAd : A dr) (hne : a0 ≠ dr) (r9 : vw_C) (ci : Nat) (hci : vwCl[ci]? = some r9) (hca : Cond.castable r9.1 "java/lang/Object" ∈ xTs) (hn : n < cap) (hc : cap ≤ 30) (v0 : Nat) (vs : List Value) (hV : va_at D vwCl (v0, .inr (ci, vs)) H0) (hv : v0 ≠ a0) (hAv : ¬ A v0) : Met l yJx4a65c_add_9ea2d w_Jx4a65c_add_9ea2d ({ frames := 6, cells := 0, slots := 0, locals := 150 } : Room) (xPc D cA e0 A H0 [.ref (a0), .ref (v0)]) (xQi (fun r h => va_at D vwCl (a0, .inr (0, [.int (mc0 + nI 1), .ref dr, .int (nI (n + 1))])) h ∧ va_at D vwCl (dr, .inl (cA 2, cap, .inr (.inr (.inr (.inr (va_up f n (some v0))))))) h) A) 0 0 (A) := by
  refine Met.ofW (cc := cJx4a65c_add_9ea2d) (maxL := 2) (ret := (some .boolean)) (by decide) rfl ?_
  intro p e s m args below meth c s₁ B hml hv
  obtain ⟨rfl, hH, hE⟩ := hv
  subst hH
  have hx := B.exec
  have hb := B.bytes
  have hr := B.returns
  have hts := hE.1.all ([.ref (a0), .ref (v0)] : List Value).toArray
  have hown : s.vm.findClass RJx4a65c = some m.cls := findClass_of_methodNamed B.named
  have hlocks := B.notSynchronized
  have hK := hE.2.1
  have hS : va_S A s.heap s.heap [] := va_S.rf
  have hl := lv_entry ([.ref (a0), .ref (v0)]) (n := 2) (Nat.le_of_ble_eq_true rfl)
  rw [lg_entry_eq]
  generalize (lg_sl ([.ref (a0), .ref (v0)]) ++ List.replicate (2 - (lg_sl ([.ref (a0), .ref (v0)])).length) Slot.unset).toArray = ls at hl ⊢
  have hl : lv_has ls 2 [(0, .ref (a0)), (1, .ref (v0))] := hl
  refine lv_aload_n hx hb dJx4a65c_add_9ea2d_0 rfl (lv_at hl 0 rfl) ?_
  refine lv_dup hx hb dJx4a65c_add_9ea2d_1 rfl ?_
  refine va_get (D := D) (ci := 0) (v := .int (mc0)) (C := RJx4a65c) (T := TJx4a65c) (N := 3) hx hb hts qi_Jx4a65c hown hK (xP1 hL) 0 rfl rfl 0 (by decide) (hts _ q_fl_Jx4a65c_63) (fun x h9 => u_same (hts _ q_sf_modCount) x h9) rfl dJx4a65c_add_9ea2d_2 ?_
  refine lv_iconst (v := nI 1) hx hb dJx4a65c_add_9ea2d_5 (by decide) ?_
  refine lv_iadd hx hb dJx4a65c_add_9ea2d_6 ?_
  refine xput (D := D) (ci := 0) (v := .int (mc0 + (nI 1))) (C := RJx4a65c) (T := TJx4a65c) (N := 3) hx hb hts qi_Jx4a65c tyJx4a65c tyJx4a65c_ok nmJx4a65c hown hK hS hL hAa rfl 0 (by decide) (hts _ q_fl_Jx4a65c_63) (fun x h9 => u_same (hts _ q_sf_modCount) x h9) rfl (tyJx4a65c_ok 0 (by decide)) rfl rfl (Nat.le_of_ble_eq_true rfl) dJx4a65c_add_9ea2d_7 (fun H1 locs hU hS => ?_)
  have hL := hU.1
  have hV := hV.kept (hU.2.2 _ hv)
  have hF := hF.kept (hU.2.2 _ (Ne.symm hne))
  refine lv_aload_n hx hb dJx4a65c_add_9ea2d_10 rfl (lv_at hl 0 rfl) ?_
  refine lv_aload_n hx hb dJx4a65c_add_9ea2d_11 rfl (lv_at hl 1 rfl) ?_
  refine lv_aload_n hx hb dJx4a65c_add_9ea2d_12 rfl (lv_at hl 0 rfl) ?_
  refine va_get (D := D) (ci := 0) (v := .ref (dr)) (C := RJx4a65c) (T := TJx4a65c) (N := 3) hx hb hts qi_Jx4a65c hown hK (xP1 hL) 0 rfl rfl 1 (by decide) (hts _ q_fl_Jx4a65c_9) (fun _ h9 => h9) rfl dJx4a65c_add_9ea2d_13 ?_
  refine lv_aload_n hx hb dJx4a65c_add_9ea2d_16 rfl (lv_at hl 0 rfl) ?_
  refine va_get (D := D) (ci := 0) (v := .int (nI (n))) (C := RJx4a65c) (T := TJx4a65c) (N := 3) hx hb hts qi_Jx4a65c hown hK (xP1 hL) 0 rfl rfl 2 (by decide) (hts _ q_fl_Jx4a65c_48) (fun _ h9 => h9) rfl dJx4a65c_add_9ea2d_17 ?_
  refine xcv (va_runV (As := [.ref (v0), .ref (dr), .int (nI (n))]) (rest := []) ⟨hx, hb, hml, hown, hts⟩ (c_Jx4a65c_add_72be8_r l D cA e0 A H1 a0 (mc0 + nI 1) dr n cap hL hAa f hF hAd hne r9 ci hci hca hn hc v0 vs hV hv hAv) ⟨(callB_of 3 hts gi_Jx4a65c_add_72be8 rfl rfl rfl (hts _ q_ini_Jx4a65c) (hts _ q_ml_Jx4a65c_131) hd_Jx4a65c_add_72be8 ⟨Nat.le_of_ble_eq_true rfl, Nat.le_of_ble_eq_true rfl⟩), hts _ q_im_Jx4a65c_add_72be8, hts _ q_sel_Jx4a65c_Jx4a65c_add_72be8⟩ (xpV hE hS hL rfl) rfl rfl hl.1 rfl (lv_room (Nat.le_of_ble_eq_true rfl)) dJx4a65c_add_9ea2d_20 ⟨Nat.le_of_ble_eq_true rfl, Nat.le_of_ble_eq_true rfl⟩) hS (fun q h => h) (fun H2 locs hP9 hz9 hk9 hS => ?_)
  refine lv_iconst (v := nI 1) hx hb dJx4a65c_add_9ea2d_23 (by decide) ?_
  have hpost : (fun r h => va_at D vwCl (a0, .inr (0, [.int (mc0 + nI 1), .ref dr, .int (nI (n + 1))])) h ∧ va_at D vwCl (dr, .inl (cA 2, cap, .inr (.inr (.inr (.inr (va_up f n (some v0))))))) h) (nI 1) H2 := by
    exact hP9
  refine W.widen (k := 0) (n := 0) (by omega) (by omega) ?_
  exact W.zret (v := (nI 1)) (ty := .boolean) hx hb hr (by decide) (fun t ht _ => ⟨⟨(nI 1), H2, rfl, hpost, ht⟩, hS.F ht⟩) hS.2.2 dJx4a65c_add_9ea2d_24
set_option maxHeartbeats 4000000 in
set_option maxRecDepth 100000 in
/-- ArrayList.add(v, es, n) _e -/
theorem c_Jx4a65c_add_72be8_e (l : Launch) (D : va_G) (cA : Nat → ClassId) (e0 : Nat) (A : Nat → Prop) (H0 : Heap) (a0 : Nat) (mc0 : Int32) (hL : va_at D vwCl (a0, .inr (0, [.int mc0, .ref e0, .int (nI 0)])) H0) (hAa : A a0) (hAn : ∀ q, H0.size ≤ q → A q) (r9 : vw_C) (ci : Nat) (hci : vwCl[ci]? = some r9) (hca : Cond.castable r9.1 "java/lang/Object" ∈ xTs) (v0 : Nat) (vs : List Value) (hV : va_at D vwCl (v0, .inr (ci, vs)) H0) (hv : v0 ≠ a0) (hAv : ¬ A v0) : Met l yJx4a65c_add_72be8 w_Jx4a65c_add_72be8 ({ frames := 5, cells := 1, slots := 10, locals := 127 } : Room) (xPc D cA e0 A H0 [.ref (a0), .ref (v0), .ref (e0), .int (nI (0))]) (xQv (fun h => ∃ d2, H0.size ≤ d2 ∧ va_at D vwCl (a0, .inr (0, [.int mc0, .ref d2, .int (nI (0 + 1))])) h ∧ va_at D vwCl (d2, .inl (cA 2, 10, .inr (.inr (.inr (.inr (va_up (fun _ => none) 0 (some v0))))))) h) A) 1 10 (A) := by
  refine Met.ofW (cc := cJx4a65c_add_72be8) (maxL := 4) (ret := none) (by decide) rfl ?_
  intro p e s m args below meth c s₁ B hml hv
  obtain ⟨rfl, hH, hE⟩ := hv
  subst hH
  have hx := B.exec
  have hb := B.bytes
  have hr := B.returns
  have hts := hE.1.all ([.ref (a0), .ref (v0), .ref (e0), .int (nI (0))] : List Value).toArray
  have hown : s.vm.findClass RJx4a65c = some m.cls := findClass_of_methodNamed B.named
  have hlocks := B.notSynchronized
  have hK := hE.2.1
  have hS : va_S A s.heap s.heap [] := va_S.rf
  have hl := lv_entry ([.ref (a0), .ref (v0), .ref (e0), .int (nI (0))]) (n := 4) (Nat.le_of_ble_eq_true rfl)
  rw [lg_entry_eq]
  generalize (lg_sl ([.ref (a0), .ref (v0), .ref (e0), .int (nI (0))]) ++ List.replicate (4 - (lg_sl ([.ref (a0), .ref (v0), .ref (e0), .int (nI (0))])).length) Slot.unset).toArray = ls at hl ⊢
  have hl : lv_has ls 4 [(0, .ref (a0)), (1, .ref (v0)), (2, .ref (e0)), (3, .int (nI (0)))] := hl
  have hLl := hL.lt
  refine lv_iload_n hx hb dJx4a65c_add_72be8_0 rfl (lv_at hl 3 rfl) ?_
  refine lv_aload_n hx hb dJx4a65c_add_72be8_1 rfl (lv_at hl 2 rfl) ?_
  refine va_tlen hx hb hE.2.2.2.2.2.1 hS (v := nI 0) rfl dJx4a65c_add_72be8_2 ?_
  refine lv_icmp_ne (tgt := 11) hx hb dJx4a65c_add_72be8_3 (by decide) (fun hno => absurd hno ((fun z => z rfl))) (fun _ => ?_)
  refine lv_aload_n hx hb dJx4a65c_add_72be8_6 rfl (lv_at hl 0 rfl) ?_
  refine xcr (va_runV (As := []) (rest := []) ⟨hx, hb, hml, hown, hts⟩ (c_Jx4a65c_grow_d5877_e l D cA e0 A s.heap a0 mc0 hL hAa hAn) ⟨(callB_of 0 hts gi_Jx4a65c_grow_d5877 rfl rfl rfl (hts _ q_ini_Jx4a65c) (hts _ q_ml_Jx4a65c_129) hd_Jx4a65c_grow_d5877 ⟨Nat.le_of_ble_eq_true rfl, Nat.le_of_ble_eq_true rfl⟩), hts _ q_im_Jx4a65c_grow_d5877, hts _ q_sel_Jx4a65c_Jx4a65c_grow_d5877⟩ (xpV hE hS hL rfl) rfl rfl hl.1 rfl (lv_room (Nat.le_of_ble_eq_true rfl)) dJx4a65c_add_72be8_7 ⟨Nat.le_of_ble_eq_true rfl, Nat.le_of_ble_eq_true rfl⟩) hS (fun q h => h) (fun r_1 H1 locs hP9 hz9 hk9 hS => ?_)
  obtain ⟨hq0, hL, hQ⟩ := hP9
  have hne2 : r_1 ≠ a0 := by
    have := hLl
    omega
  have hV := hV.kept (hk9 _ hV.lt hAv)
  refine lv_astore_n (lv' := [(2, .ref (r_1)), (0, .ref (a0)), (1, .ref (v0)), (3, .int (nI (0)))]) hx hb dJx4a65c_add_72be8_10 rfl hl (by decide) rfl (fun ls hl => ?_)
  refine lv_aload_n hx hb dJx4a65c_add_72be8_11 rfl (lv_at hl 0 rfl) ?_
  refine lv_iload_n hx hb dJx4a65c_add_72be8_12 rfl (lv_at hl 3 rfl) ?_
  refine lv_aload_n hx hb dJx4a65c_add_72be8_13 rfl (lv_at hl 2 rfl) ?_
  refine vb_astq (D := D) hx hb hK (xP2 hQ hL) (xD2 hne2 (hAn _ hq0) hAa) hS 0 2 (E := "java/lang/Object") (C := r9.1) rfl rfl (xcell hK hci hV) (xcast hE.1 hca) (i := nI 0) (vp_in_nI (n := 0) (by omega) (by omega)) dJx4a65c_add_72be8_14 (fun H8 locs hP8 _ hS => ?_)
  rw [nI_clamp (n := 0) (by omega)] at hP8
  have hQ := hP8 0 _ rfl
  have hL := hP8 1 _ rfl
  refine lv_aload_n hx hb dJx4a65c_add_72be8_15 rfl (lv_at hl 1 rfl) ?_
  refine lv_iload_n hx hb dJx4a65c_add_72be8_16 rfl (lv_at hl 3 rfl) ?_
  refine lv_iconst (v := nI 1) hx hb dJx4a65c_add_72be8_17 (by decide) ?_
  refine lv_iadd hx hb dJx4a65c_add_72be8_18 ?_
  refine xtop (show ((nI (0)) + (nI 1)) = nI (0 + 1) from nI_add 0 1) ?_
  refine xput (D := D) (ci := 0) (v := .int (nI (0 + 1))) (C := RJx4a65c) (T := TJx4a65c) (N := 3) hx hb hts qi_Jx4a65c tyJx4a65c tyJx4a65c_ok nmJx4a65c hown hK hS hL hAa rfl 2 (by decide) (hts _ q_fl_Jx4a65c_48) (fun _ h9 => h9) rfl (tyJx4a65c_ok 2 (by decide)) rfl rfl (Nat.le_of_ble_eq_true rfl) dJx4a65c_add_72be8_19 (fun H2 locs hU hS => ?_)
  have hL := hU.1
  have hQ := hQ.kept (hU.2.2 _ hne2)
  have hpost : (fun h => ∃ d2, s.heap.size ≤ d2 ∧ va_at D vwCl (a0, .inr (0, [.int mc0, .ref d2, .int (nI (0 + 1))])) h ∧ va_at D vwCl (d2, .inl (cA 2, 10, .inr (.inr (.inr (.inr (va_up (fun _ => none) 0 (some v0))))))) h) H2 := by
    exact ⟨_, hq0, hL, hQ⟩
  refine W.widen (k := 1) (n := 10) (by omega) (by omega) ?_
  exact W.vret hx hb hr (fun t ht _ => ⟨⟨H2, rfl, hpost, ht⟩, hS.F ht⟩) hS.2.2 dJx4a65c_add_72be8_22
set_option maxHeartbeats 4000000 in
set_option maxRecDepth 100000 in
/-- ArrayList.add(v) _e -/
theorem c_Jx4a65c_add_9ea2d_e (l : Launch) (D : va_G) (cA : Nat → ClassId) (e0 : Nat) (A : Nat → Prop) (H0 : Heap) (a0 : Nat) (mc0 : Int32) (hL : va_at D vwCl (a0, .inr (0, [.int mc0, .ref e0, .int (nI 0)])) H0) (hAa : A a0) (hAn : ∀ q, H0.size ≤ q → A q) (r9 : vw_C) (ci : Nat) (hci : vwCl[ci]? = some r9) (hca : Cond.castable r9.1 "java/lang/Object" ∈ xTs) (v0 : Nat) (vs : List Value) (hV : va_at D vwCl (v0, .inr (ci, vs)) H0) (hv : v0 ≠ a0) (hAv : ¬ A v0) : Met l yJx4a65c_add_9ea2d w_Jx4a65c_add_9ea2d ({ frames := 6, cells := 1, slots := 10, locals := 150 } : Room) (xPc D cA e0 A H0 [.ref (a0), .ref (v0)]) (xQi (fun r h => ∃ d2, H0.size ≤ d2 ∧ va_at D vwCl (a0, .inr (0, [.int (mc0 + nI 1), .ref d2, .int (nI (0 + 1))])) h ∧ va_at D vwCl (d2, .inl (cA 2, 10, .inr (.inr (.inr (.inr (va_up (fun _ => none) 0 (some v0))))))) h) A) 1 10 (A) := by
  refine Met.ofW (cc := cJx4a65c_add_9ea2d) (maxL := 2) (ret := (some .boolean)) (by decide) rfl ?_
  intro p e s m args below meth c s₁ B hml hv
  obtain ⟨rfl, hH, hE⟩ := hv
  subst hH
  have hx := B.exec
  have hb := B.bytes
  have hr := B.returns
  have hts := hE.1.all ([.ref (a0), .ref (v0)] : List Value).toArray
  have hown : s.vm.findClass RJx4a65c = some m.cls := findClass_of_methodNamed B.named
  have hlocks := B.notSynchronized
  have hK := hE.2.1
  have hS : va_S A s.heap s.heap [] := va_S.rf
  have hl := lv_entry ([.ref (a0), .ref (v0)]) (n := 2) (Nat.le_of_ble_eq_true rfl)
  rw [lg_entry_eq]
  generalize (lg_sl ([.ref (a0), .ref (v0)]) ++ List.replicate (2 - (lg_sl ([.ref (a0), .ref (v0)])).length) Slot.unset).toArray = ls at hl ⊢
  have hl : lv_has ls 2 [(0, .ref (a0)), (1, .ref (v0))] := hl
  refine lv_aload_n hx hb dJx4a65c_add_9ea2d_0 rfl (lv_at hl 0 rfl) ?_
  refine lv_dup hx hb dJx4a65c_add_9ea2d_1 rfl ?_
  refine va_get (D := D) (ci := 0) (v := .int (mc0)) (C := RJx4a65c) (T := TJx4a65c) (N := 3) hx hb hts qi_Jx4a65c hown hK (xP1 hL) 0 rfl rfl 0 (by decide) (hts _ q_fl_Jx4a65c_63) (fun x h9 => u_same (hts _ q_sf_modCount) x h9) rfl dJx4a65c_add_9ea2d_2 ?_
  refine lv_iconst (v := nI 1) hx hb dJx4a65c_add_9ea2d_5 (by decide) ?_
  refine lv_iadd hx hb dJx4a65c_add_9ea2d_6 ?_
  refine xput (D := D) (ci := 0) (v := .int (mc0 + (nI 1))) (C := RJx4a65c) (T := TJx4a65c) (N := 3) hx hb hts qi_Jx4a65c tyJx4a65c tyJx4a65c_ok nmJx4a65c hown hK hS hL hAa rfl 0 (by decide) (hts _ q_fl_Jx4a65c_63) (fun x h9 => u_same (hts _ q_sf_modCount) x h9) rfl (tyJx4a65c_ok 0 (by decide)) rfl rfl (Nat.le_of_ble_eq_true rfl) dJx4a65c_add_9ea2d_7 (fun H1 locs hU hS => ?_)
  have hL := hU.1
  have hV := hV.kept (hU.2.2 _ hv)
  refine lv_aload_n hx hb dJx4a65c_add_9ea2d_10 rfl (lv_at hl 0 rfl) ?_
  refine lv_aload_n hx hb dJx4a65c_add_9ea2d_11 rfl (lv_at hl 1 rfl) ?_
  refine lv_aload_n hx hb dJx4a65c_add_9ea2d_12 rfl (lv_at hl 0 rfl) ?_
  refine va_get (D := D) (ci := 0) (v := .ref (e0)) (C := RJx4a65c) (T := TJx4a65c) (N := 3) hx hb hts qi_Jx4a65c hown hK (xP1 hL) 0 rfl rfl 1 (by decide) (hts _ q_fl_Jx4a65c_9) (fun _ h9 => h9) rfl dJx4a65c_add_9ea2d_13 ?_
  refine lv_aload_n hx hb dJx4a65c_add_9ea2d_16 rfl (lv_at hl 0 rfl) ?_
  refine va_get (D := D) (ci := 0) (v := .int (nI (0))) (C := RJx4a65c) (T := TJx4a65c) (N := 3) hx hb hts qi_Jx4a65c hown hK (xP1 hL) 0 rfl rfl 2 (by decide) (hts _ q_fl_Jx4a65c_48) (fun _ h9 => h9) rfl dJx4a65c_add_9ea2d_17 ?_
  refine xcv (va_runV (As := [.ref (v0), .ref (e0), .int (nI (0))]) (rest := []) ⟨hx, hb, hml, hown, hts⟩ (c_Jx4a65c_add_72be8_e l D cA e0 A H1 a0 (mc0 + nI 1) hL hAa (fun q hq => hAn q (by have := hU.2.1; omega)) r9 ci hci hca v0 vs hV hv hAv) ⟨(callB_of 3 hts gi_Jx4a65c_add_72be8 rfl rfl rfl (hts _ q_ini_Jx4a65c) (hts _ q_ml_Jx4a65c_131) hd_Jx4a65c_add_72be8 ⟨Nat.le_of_ble_eq_true rfl, Nat.le_of_ble_eq_true rfl⟩), hts _ q_im_Jx4a65c_add_72be8, hts _ q_sel_Jx4a65c_Jx4a65c_add_72be8⟩ (xpV hE hS hL rfl) rfl rfl hl.1 rfl (lv_room (Nat.le_of_ble_eq_true rfl)) dJx4a65c_add_9ea2d_20 ⟨Nat.le_of_ble_eq_true rfl, Nat.le_of_ble_eq_true rfl⟩) hS (fun q h => h) (fun H2 locs hP9 hz9 hk9 hS => ?_)
  refine lv_iconst (v := nI 1) hx hb dJx4a65c_add_9ea2d_23 (by decide) ?_
  have hpost : (fun r h => ∃ d2, s.heap.size ≤ d2 ∧ va_at D vwCl (a0, .inr (0, [.int (mc0 + nI 1), .ref d2, .int (nI (0 + 1))])) h ∧ va_at D vwCl (d2, .inl (cA 2, 10, .inr (.inr (.inr (.inr (va_up (fun _ => none) 0 (some v0))))))) h) (nI 1) H2 := by
    obtain ⟨d2, hz, hy⟩ := hP9
    exact ⟨d2, by have := hU.2.1; omega, hy⟩
  refine W.widen (k := 1) (n := 10) (by omega) (by omega) ?_
  exact W.zret (v := (nI 1)) (ty := .boolean) hx hb hr (by decide) (fun t ht _ => ⟨⟨(nI 1), H2, rfl, hpost, ht⟩, hS.F ht⟩) hS.2.2 dJx4a65c_add_9ea2d_24
set_option maxHeartbeats 4000000 in
set_option maxRecDepth 100000 in
/-- ArrayList.add(v, es, n) _f -/
theorem c_Jx4a65c_add_72be8_f (l : Launch) (D : va_G) (cA : Nat → ClassId) (e0 : Nat) (A : Nat → Prop) (H0 : Heap) (a0 : Nat) (mc0 : Int32) (dr cap : Nat) (hL : va_at D vwCl (a0, .inr (0, [.int mc0, .ref dr, .int (nI cap)])) H0) (hAa : A a0) (f : Nat → Option Nat) (hF : va_at D vwCl (dr, .inl (cA 2, cap, .inr (.inr (.inr (.inr f))))) H0) (hAd : A dr) (hne : a0 ≠ dr) (r9 : vw_C) (ci : Nat) (hci : vwCl[ci]? = some r9) (hca : Cond.castable r9.1 "java/lang/Object" ∈ xTs) (hEl : xEl D r9 ci f cap H0) (hc : 10 ≤ cap ∧ cap ≤ 15) (hAn : ∀ q, H0.size ≤ q → A q) (v0 : Nat) (vs : List Value) (hV : va_at D vwCl (v0, .inr (ci, vs)) H0) (hv : v0 ≠ a0) (hAv : ¬ A v0) : Met l yJx4a65c_add_72be8 w_Jx4a65c_add_72be8 ({ frames := 5, cells := 1, slots := 22, locals := 127 } : Room) (xPc D cA e0 A H0 [.ref (a0), .ref (v0), .ref (dr), .int (nI (cap))]) (xQv (fun h => ∃ d2, H0.size ≤ d2 ∧ va_at D vwCl (a0, .inr (0, [.int mc0, .ref d2, .int (nI (cap + 1))])) h ∧ va_at D vwCl (d2, .inl (cA 2, (cap + cap / 2), .inr (.inr (.inr (.inr (va_up (fun j => if j < cap then f j else none) cap (some v0))))))) h) A) 1 22 (A) := by
  refine Met.ofW (cc := cJx4a65c_add_72be8) (maxL := 4) (ret := none) (by decide) rfl ?_
  intro p e s m args below meth c s₁ B hml hv
  obtain ⟨rfl, hH, hE⟩ := hv
  subst hH
  have hx := B.exec
  have hb := B.bytes
  have hr := B.returns
  have hts := hE.1.all ([.ref (a0), .ref (v0), .ref (dr), .int (nI (cap))] : List Value).toArray
  have hown : s.vm.findClass RJx4a65c = some m.cls := findClass_of_methodNamed B.named
  have hlocks := B.notSynchronized
  have hK := hE.2.1
  have hS : va_S A s.heap s.heap [] := va_S.rf
  have hl := lv_entry ([.ref (a0), .ref (v0), .ref (dr), .int (nI (cap))]) (n := 4) (Nat.le_of_ble_eq_true rfl)
  rw [lg_entry_eq]
  generalize (lg_sl ([.ref (a0), .ref (v0), .ref (dr), .int (nI (cap))]) ++ List.replicate (4 - (lg_sl ([.ref (a0), .ref (v0), .ref (dr), .int (nI (cap))])).length) Slot.unset).toArray = ls at hl ⊢
  have hl : lv_has ls 4 [(0, .ref (a0)), (1, .ref (v0)), (2, .ref (dr)), (3, .int (nI (cap)))] := hl
  have hLl := hL.lt
  refine lv_iload_n hx hb dJx4a65c_add_72be8_0 rfl (lv_at hl 3 rfl) ?_
  refine lv_aload_n hx hb dJx4a65c_add_72be8_1 rfl (lv_at hl 2 rfl) ?_
  refine va_alen hx hb hK (xP1 hF) 0 2 rfl rfl (v := nI (cap)) rfl dJx4a65c_add_72be8_2 ?_
  refine lv_icmp_ne (tgt := 11) hx hb dJx4a65c_add_72be8_3 (by decide) (fun hno => absurd hno ((fun z => z rfl))) (fun _ => ?_)
  refine lv_aload_n hx hb dJx4a65c_add_72be8_6 rfl (lv_at hl 0 rfl) ?_
  refine xcr (va_runV (As := []) (rest := []) ⟨hx, hb, hml, hown, hts⟩ (c_Jx4a65c_grow_d5877_f l D cA e0 A s.heap a0 mc0 dr cap hL hAa f hF hAd hne r9 ci hci hca hEl hc hAn) ⟨(callB_of 0 hts gi_Jx4a65c_grow_d5877 rfl rfl rfl (hts _ q_ini_Jx4a65c) (hts _ q_ml_Jx4a65c_129) hd_Jx4a65c_grow_d5877 ⟨Nat.le_of_ble_eq_true rfl, Nat.le_of_ble_eq_true rfl⟩), hts _ q_im_Jx4a65c_grow_d5877, hts _ q_sel_Jx4a65c_Jx4a65c_grow_d5877⟩ (xpV hE hS hL rfl) rfl rfl hl.1 rfl (lv_room (Nat.le_of_ble_eq_true rfl)) dJx4a65c_add_72be8_7 ⟨Nat.le_of_ble_eq_true rfl, Nat.le_of_ble_eq_true rfl⟩) hS (fun q h => h) (fun r_1 H1 locs hP9 hz9 hk9 hS => ?_)
  obtain ⟨hq0, hL, hQ⟩ := hP9
  have hne2 : r_1 ≠ a0 := by
    have := hLl
    omega
  have hV := hV.kept (hk9 _ hV.lt hAv)
  refine lv_astore_n (lv' := [(2, .ref (r_1)), (0, .ref (a0)), (1, .ref (v0)), (3, .int (nI (cap)))]) hx hb dJx4a65c_add_72be8_10 rfl hl (by decide) rfl (fun ls hl => ?_)
  refine lv_aload_n hx hb dJx4a65c_add_72be8_11 rfl (lv_at hl 0 rfl) ?_
  refine lv_iload_n hx hb dJx4a65c_add_72be8_12 rfl (lv_at hl 3 rfl) ?_
  refine lv_aload_n hx hb dJx4a65c_add_72be8_13 rfl (lv_at hl 2 rfl) ?_
  refine vb_astq (D := D) hx hb hK (xP2 hQ hL) (xD2 hne2 (hAn _ hq0) hAa) hS 0 2 (E := "java/lang/Object") (C := r9.1) rfl rfl (xcell hK hci hV) (xcast hE.1 hca) (i := nI cap) (vp_in_nI (n := cap) (by omega) (by omega)) dJx4a65c_add_72be8_14 (fun H8 locs hP8 _ hS => ?_)
  rw [nI_clamp (n := cap) (by omega)] at hP8
  have hQ := hP8 0 _ rfl
  have hL := hP8 1 _ rfl
  refine lv_aload_n hx hb dJx4a65c_add_72be8_15 rfl (lv_at hl 1 rfl) ?_
  refine lv_iload_n hx hb dJx4a65c_add_72be8_16 rfl (lv_at hl 3 rfl) ?_
  refine lv_iconst (v := nI 1) hx hb dJx4a65c_add_72be8_17 (by decide) ?_
  refine lv_iadd hx hb dJx4a65c_add_72be8_18 ?_
  refine xtop (show ((nI (cap)) + (nI 1)) = nI (cap + 1) from nI_add cap 1) ?_
  refine xput (D := D) (ci := 0) (v := .int (nI (cap + 1))) (C := RJx4a65c) (T := TJx4a65c) (N := 3) hx hb hts qi_Jx4a65c tyJx4a65c tyJx4a65c_ok nmJx4a65c hown hK hS hL hAa rfl 2 (by decide) (hts _ q_fl_Jx4a65c_48) (fun _ h9 => h9) rfl (tyJx4a65c_ok 2 (by decide)) rfl rfl (Nat.le_of_ble_eq_true rfl) dJx4a65c_add_72be8_19 (fun H2 locs hU hS => ?_)
  have hL := hU.1
  have hQ := hQ.kept (hU.2.2 _ hne2)
  have hpost : (fun h => ∃ d2, s.heap.size ≤ d2 ∧ va_at D vwCl (a0, .inr (0, [.int mc0, .ref d2, .int (nI (cap + 1))])) h ∧ va_at D vwCl (d2, .inl (cA 2, (cap + cap / 2), .inr (.inr (.inr (.inr (va_up (fun j => if j < cap then f j else none) cap (some v0))))))) h) H2 := by
    exact ⟨_, hq0, hL, hQ⟩
  refine W.widen (k := 1) (n := 22) (by omega) (by omega) ?_
  exact W.vret hx hb hr (fun t ht _ => ⟨⟨H2, rfl, hpost, ht⟩, hS.F ht⟩) hS.2.2 dJx4a65c_add_72be8_22
set_option maxHeartbeats 4000000 in
set_option maxRecDepth 100000 in
/-- ArrayList.add(v) _f -/
theorem c_Jx4a65c_add_9ea2d_f (l : Launch) (D : va_G) (cA : Nat → ClassId) (e0 : Nat) (A : Nat → Prop) (H0 : Heap) (a0 : Nat) (mc0 : Int32) (dr cap : Nat) (hL : va_at D vwCl (a0, .inr (0, [.int mc0, .ref dr, .int (nI cap)])) H0) (hAa : A a0) (f : Nat → Option Nat) (hF : va_at D vwCl (dr, .inl (cA 2, cap, .inr (.inr (.inr (.inr f))))) H0) (hAd : A dr) (hne : a0 ≠ dr) (r9 : vw_C) (ci : Nat) (hci : vwCl[ci]? = some r9) (hca : Cond.castable r9.1 "java/lang/Object" ∈ xTs) (hEl : xEl D r9 ci f cap H0) (hc : 10 ≤ cap ∧ cap ≤ 15) (hAn : ∀ q, H0.size ≤ q → A q) (v0 : Nat) (vs : List Value) (hV : va_at D vwCl (v0, .inr (ci, vs)) H0) (hv : v0 ≠ a0) (hAv : ¬ A v0) (hdis : ∀ j, j < cap → ∀ y, f j = some y → y ≠ a0) : Met l yJx4a65c_add_9ea2d w_Jx4a65c_add_9ea2d ({ frames := 6, cells := 1, slots := 22, locals := 150 } : Room) (xPc D cA e0 A H0 [.ref (a0), .ref (v0)]) (xQi (fun r h => ∃ d2, H0.size ≤ d2 ∧ va_at D vwCl (a0, .inr (0, [.int (mc0 + nI 1), .ref d2, .int (nI (cap + 1))])) h ∧ va_at D vwCl (d2, .inl (cA 2, (cap + cap / 2), .inr (.inr (.inr (.inr (va_up (fun j => if j < cap then f j else none) cap (some v0))))))) h) A) 1 22 (A) := by
  refine Met.ofW (cc := cJx4a65c_add_9ea2d) (maxL := 2) (ret := (some .boolean)) (by decide) rfl ?_
  intro p e s m args below meth c s₁ B hml hv
  obtain ⟨rfl, hH, hE⟩ := hv
  subst hH
  have hx := B.exec
  have hb := B.bytes
  have hr := B.returns
  have hts := hE.1.all ([.ref (a0), .ref (v0)] : List Value).toArray
  have hown : s.vm.findClass RJx4a65c = some m.cls := findClass_of_methodNamed B.named
  have hlocks := B.notSynchronized
  have hK := hE.2.1
  have hS : va_S A s.heap s.heap [] := va_S.rf
  have hl := lv_entry ([.ref (a0), .ref (v0)]) (n := 2) (Nat.le_of_ble_eq_true rfl)
  rw [lg_entry_eq]
  generalize (lg_sl ([.ref (a0), .ref (v0)]) ++ List.replicate (2 - (lg_sl ([.ref (a0), .ref (v0)])).length) Slot.unset).toArray = ls at hl ⊢
  have hl : lv_has ls 2 [(0, .ref (a0)), (1, .ref (v0))] := hl
  refine lv_aload_n hx hb dJx4a65c_add_9ea2d_0 rfl (lv_at hl 0 rfl) ?_
  refine lv_dup hx hb dJx4a65c_add_9ea2d_1 rfl ?_
  refine va_get (D := D) (ci := 0) (v := .int (mc0)) (C := RJx4a65c) (T := TJx4a65c) (N := 3) hx hb hts qi_Jx4a65c hown hK (xP1 hL) 0 rfl rfl 0 (by decide) (hts _ q_fl_Jx4a65c_63) (fun x h9 => u_same (hts _ q_sf_modCount) x h9) rfl dJx4a65c_add_9ea2d_2 ?_
  refine lv_iconst (v := nI 1) hx hb dJx4a65c_add_9ea2d_5 (by decide) ?_
  refine lv_iadd hx hb dJx4a65c_add_9ea2d_6 ?_
  refine xput (D := D) (ci := 0) (v := .int (mc0 + (nI 1))) (C := RJx4a65c) (T := TJx4a65c) (N := 3) hx hb hts qi_Jx4a65c tyJx4a65c tyJx4a65c_ok nmJx4a65c hown hK hS hL hAa rfl 0 (by decide) (hts _ q_fl_Jx4a65c_63) (fun x h9 => u_same (hts _ q_sf_modCount) x h9) rfl (tyJx4a65c_ok 0 (by decide)) rfl rfl (Nat.le_of_ble_eq_true rfl) dJx4a65c_add_9ea2d_7 (fun H1 locs hU hS => ?_)
  have hL := hU.1
  have hV := hV.kept (hU.2.2 _ hv)
  have hF := hF.kept (hU.2.2 _ (Ne.symm hne))
  have hEl := hEl.kept (fun j hj y hy => hU.2.2 y (hdis j hj y hy))
  refine lv_aload_n hx hb dJx4a65c_add_9ea2d_10 rfl (lv_at hl 0 rfl) ?_
  refine lv_aload_n hx hb dJx4a65c_add_9ea2d_11 rfl (lv_at hl 1 rfl) ?_
  refine lv_aload_n hx hb dJx4a65c_add_9ea2d_12 rfl (lv_at hl 0 rfl) ?_
  refine va_get (D := D) (ci := 0) (v := .ref (dr)) (C := RJx4a65c) (T := TJx4a65c) (N := 3) hx hb hts qi_Jx4a65c hown hK (xP1 hL) 0 rfl rfl 1 (by decide) (hts _ q_fl_Jx4a65c_9) (fun _ h9 => h9) rfl dJx4a65c_add_9ea2d_13 ?_
  refine lv_aload_n hx hb dJx4a65c_add_9ea2d_16 rfl (lv_at hl 0 rfl) ?_
  refine va_get (D := D) (ci := 0) (v := .int (nI (cap))) (C := RJx4a65c) (T := TJx4a65c) (N := 3) hx hb hts qi_Jx4a65c hown hK (xP1 hL) 0 rfl rfl 2 (by decide) (hts _ q_fl_Jx4a65c_48) (fun _ h9 => h9) rfl dJx4a65c_add_9ea2d_17 ?_
  refine xcv (va_runV (As := [.ref (v0), .ref (dr), .int (nI (cap))]) (rest := []) ⟨hx, hb, hml, hown, hts⟩ (c_Jx4a65c_add_72be8_f l D cA e0 A H1 a0 (mc0 + nI 1) dr cap hL hAa f hF hAd hne r9 ci hci hca hEl hc (fun q hq => hAn q (by have := hU.2.1; omega)) v0 vs hV hv hAv) ⟨(callB_of 3 hts gi_Jx4a65c_add_72be8 rfl rfl rfl (hts _ q_ini_Jx4a65c) (hts _ q_ml_Jx4a65c_131) hd_Jx4a65c_add_72be8 ⟨Nat.le_of_ble_eq_true rfl, Nat.le_of_ble_eq_true rfl⟩), hts _ q_im_Jx4a65c_add_72be8, hts _ q_sel_Jx4a65c_Jx4a65c_add_72be8⟩ (xpV hE hS hL rfl) rfl rfl hl.1 rfl (lv_room (Nat.le_of_ble_eq_true rfl)) dJx4a65c_add_9ea2d_20 ⟨Nat.le_of_ble_eq_true rfl, Nat.le_of_ble_eq_true rfl⟩) hS (fun q h => h) (fun H2 locs hP9 hz9 hk9 hS => ?_)
  refine lv_iconst (v := nI 1) hx hb dJx4a65c_add_9ea2d_23 (by decide) ?_
  have hpost : (fun r h => ∃ d2, s.heap.size ≤ d2 ∧ va_at D vwCl (a0, .inr (0, [.int (mc0 + nI 1), .ref d2, .int (nI (cap + 1))])) h ∧ va_at D vwCl (d2, .inl (cA 2, (cap + cap / 2), .inr (.inr (.inr (.inr (va_up (fun j => if j < cap then f j else none) cap (some v0))))))) h) (nI 1) H2 := by
    obtain ⟨d2, hz, hy⟩ := hP9
    exact ⟨d2, by have := hU.2.1; omega, hy⟩
  refine W.widen (k := 1) (n := 22) (by omega) (by omega) ?_
  exact W.zret (v := (nI 1)) (ty := .boolean) hx hb hr (by decide) (fun t ht _ => ⟨⟨(nI 1), H2, rfl, hpost, ht⟩, hS.F ht⟩) hS.2.2 dJx4a65c_add_9ea2d_24
