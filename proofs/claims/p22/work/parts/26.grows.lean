/-! Lists that grow (by p26.py) -/
theorem sh_1 : ∀ c, c < 64 → nI c >>> (nI 1 &&& 31) = nI (c / 2) := by decide +kernel
theorem mx_nI {a b : Nat} (ha : a < 2 ^ 31) (hb : b < 2 ^ 31) : (if nI a < nI b then nI b else nI a) = nI (max a b) := by
  by_cases h : a < b
  · rw [if_pos (nI_lt h hb), Nat.max_eq_right (by omega)]
  · rw [if_neg (nI_nlt (by omega) ha), Nat.max_eq_left (by omega)]
/-- as xPc, with the class object of the arrays of objects -/
abbrev xPm (D : va_G) (cA : Nat → ClassId) (e0 : Nat) (A : Nat → Prop) (H0 : Heap) (mi : Nat) (As : List Value) : Array Value → State → Prop := va_Pc As (fun U => U.heap = H0 ∧ xE D cA e0 A H0 U ∧ va_Mi "[Ljava/lang/Object;" mi U)
theorem xpSm {D : va_G} {cA : Nat → ClassId} {e0 mi : Nat} {A B : Nat → Prop} {s : State} {H : Heap} {locs : List Loc} {As : List Value} (hE : xE D cA e0 A s.heap s) (hM : va_Mi "[Ljava/lang/Object;" mi s) (hS : va_S A s.heap H locs) (hB : ∀ q, B q → A q) : PreS s H (xPm D cA e0 B H mi As) As :=
  ⟨fun a U g mk q => ⟨q.1, q.2.1, q.2.2.1.warm (U := U.calling g mk a) (State.WarmedH.refl U), va_Mi.moved (State.WarmedH.refl U).alike q.2.2.2⟩, fun U hU hW => ⟨rfl, hU, ((hE.kept hS.2.1).narrow hB).warm hW, va_Mi.moved hW.alike hM⟩⟩
theorem va_at.clsO {D : va_G} {cA : Nat → ClassId} {q n : Nat} {f : Nat → Option Nat} {H : Heap} {s : State} (hK : va_K D vwCl (xTy cA) s) (h : va_at D vwCl (q, .inl (cA 2, n, .inr (.inr (.inr (.inr f))))) H) : ∃ cell : Cell, H[q]? = some cell ∧ cell.vm.isStatics = false ∧ s.vm.findClass "[Ljava/lang/Object;" = some cell.cls := ⟨_, h, rfl, va_nmO (hK.2 2 _ rfl).2 rfl⟩
set_option maxHeartbeats 4000000 in
set_option maxRecDepth 100000 in
/-- ArraysSupport.newLength(a, b, c) -/
theorem c_J8_newLength_cabcc (l : Launch) (D : va_G) (cA : Nat → ClassId) (e0 : Nat) (A : Nat → Prop) (H0 : Heap) (a b w : Nat) (hc1 : 1 ≤ w) (hca : a + b + w < 2 ^ 30) : Met l yJ8_newLength_cabcc w_J8_newLength_cabcc ({ frames := 1, cells := 0, slots := 0, locals := 22 } : Room) (xPc D cA e0 A H0 [.int (nI (a)), .int (nI (b)), .int (nI (w))]) (xR (some (.int (nI (a + max b w))))) 0 0 (xNo) := by
  refine Met.ofW (cc := cJ8_newLength_cabcc) (maxL := 4) (ret := (some .int)) (by decide) rfl ?_
  intro p e s m args below meth c s₁ B hml hv
  obtain ⟨rfl, hH, hE⟩ := hv
  subst hH
  have hx := B.exec
  have hb := B.bytes
  have hr := B.returns
  have hts := hE.1.all ([.int (nI (a)), .int (nI (b)), .int (nI (w))] : List Value).toArray
  have hown : s.vm.findClass RJ8 = some m.cls := findClass_of_methodNamed B.named
  have hlocks := B.notSynchronized
  have hK := hE.2.1
  have hS : va_S A s.heap s.heap [] := va_S.rf
  have hl := lv_entry ([.int (nI (a)), .int (nI (b)), .int (nI (w))]) (n := 4) (Nat.le_of_ble_eq_true rfl)
  rw [lg_entry_eq]
  generalize (lg_sl ([.int (nI (a)), .int (nI (b)), .int (nI (w))]) ++ List.replicate (4 - (lg_sl ([.int (nI (a)), .int (nI (b)), .int (nI (w))])).length) Slot.unset).toArray = ls at hl ⊢
  have hl : lv_has ls 4 [(0, .int (nI (a))), (1, .int (nI (b))), (2, .int (nI (w)))] := hl
  refine lv_iload_n hx hb dJ8_newLength_cabcc_0 rfl (lv_at hl 0 rfl) ?_
  refine lv_iload_n hx hb dJ8_newLength_cabcc_1 rfl (lv_at hl 1 rfl) ?_
  refine lv_iload_n hx hb dJ8_newLength_cabcc_2 rfl (lv_at hl 2 rfl) ?_
  refine va_mmax hx hb (hml.trans hl.1.symm) hown (hts _ q_ml_J8_194) (hts _ q_st_J9_max_7cf53) (hts _ q_ini_J9) (hts _ q_co_max) (Nat.le_of_ble_eq_true rfl) (Nat.le_of_ble_eq_true rfl) (Nat.le_of_ble_eq_true rfl) (Nat.le_of_ble_eq_true rfl) dJ8_newLength_cabcc_3 ?_
  refine xtop (show (if nI (b) < nI (w) then nI (w) else nI (b)) = nI (max b w) from mx_nI (by omega) (by omega)) ?_
  refine lv_iadd hx hb dJ8_newLength_cabcc_6 ?_
  refine xtop (show ((nI (a)) + (nI (max b w))) = nI (a + (max b w)) from nI_add a (max b w)) ?_
  refine lv_istore_n (lv' := [(3, .int (nI (a + (max b w)))), (0, .int (nI (a))), (1, .int (nI (b))), (2, .int (nI (w)))]) hx hb dJ8_newLength_cabcc_7 rfl hl (by decide) rfl (fun ls hl => ?_)
  refine lv_iconst (v := nI 0) hx hb dJ8_newLength_cabcc_8 (by decide) ?_
  refine lv_iload_n hx hb dJ8_newLength_cabcc_9 rfl (lv_at hl 0 rfl) ?_
  refine lv_icmp_ge (tgt := 21) hx hb dJ8_newLength_cabcc_10 (by decide) (fun hno => absurd hno ((fun z => absurd ((nI_leI (a := a + max b w) (b := 0) (by omega) (by omega)).mp z) (by omega)))) (fun _ => ?_)
  refine lv_iload_n hx hb dJ8_newLength_cabcc_13 rfl (lv_at hl 0 rfl) ?_
  refine lv_ldc (v := nI 2147483639) hx hb hown (hts _ q_ko_J8_200) dJ8_newLength_cabcc_14 ?_
  refine lv_icmp_gt (tgt := 21) hx hb dJ8_newLength_cabcc_16 (by decide) (fun hno => absurd hno ((fun z => absurd ((nI_ltI (a := 2147483639) (b := a + max b w) (by omega) (by omega)).mp z) (by omega)))) (fun _ => ?_)
  refine lv_iload_n hx hb dJ8_newLength_cabcc_19 rfl (lv_at hl 0 rfl) ?_
  exact W.iret (v := (nI (a + (max b w)))) hx hb hr (fun t ht _ => ⟨rfl, ht⟩) (fun q hq => absurd hq List.not_mem_nil) dJ8_newLength_cabcc_20
set_option maxHeartbeats 4000000 in
set_option maxRecDepth 100000 in
/-- Arrays.copyOf(es, k, class) -/
theorem c_J7_copyOf_6403c (l : Launch) (D : va_G) (cA : Nat → ClassId) (e0 : Nat) (A : Nat → Prop) (H0 : Heap) (dr cap : Nat) (f : Nat → Option Nat) (hF : va_at D vwCl (dr, .inl (cA 2, cap, .inr (.inr (.inr (.inr f))))) H0) (r : vw_C) (ci : Nat) (hci : vwCl[ci]? = some r) (hca : Cond.castable r.1 "java/lang/Object" ∈ xTs) (hEl : xEl D r ci f cap H0) (hAd : A dr) (k : Nat) (hk : cap ≤ k) (hk22 : k ≤ 22) (hAn : ∀ q, H0.size ≤ q → A q) (mi : Nat) : Met l yJ7_copyOf_6403c w_J7_copyOf_6403c ({ frames := 1, cells := 1, slots := 22, locals := 40 } : Room) (xPm D cA e0 A H0 mi [.ref (dr), .int (nI (k)), .ref (mi)]) (xQr (fun r h => H0.size ≤ r ∧ va_at D vwCl (r, .inl (cA 2, k, .inr (.inr (.inr (.inr (fun j => if j < cap then f j else none)))))) h) A) 1 22 (A) := by
  refine Met.ofW (cc := cJ7_copyOf_6403c) (maxL := 4) (ret := (some (.array (.object "java/lang/Object")))) (by decide) rfl ?_
  intro p e s m args below meth c s₁ B hml hv
  obtain ⟨rfl, hH, hE, hMi⟩ := hv
  subst hH
  have hx := B.exec
  have hb := B.bytes
  have hr := B.returns
  have hts := hE.1.all ([.ref (dr), .int (nI (k)), .ref (mi)] : List Value).toArray
  have hown : s.vm.findClass RJ7 = some m.cls := findClass_of_methodNamed B.named
  have hlocks := B.notSynchronized
  have hK := hE.2.1
  have hS : va_S A s.heap s.heap [] := va_S.rf
  have hl := lv_entry ([.ref (dr), .int (nI (k)), .ref (mi)]) (n := 4) (Nat.le_of_ble_eq_true rfl)
  rw [lg_entry_eq]
  generalize (lg_sl ([.ref (dr), .int (nI (k)), .ref (mi)]) ++ List.replicate (4 - (lg_sl ([.ref (dr), .int (nI (k)), .ref (mi)])).length) Slot.unset).toArray = ls at hl ⊢
  have hl : lv_has ls 4 [(0, .ref (dr)), (1, .int (nI (k))), (2, .ref (mi))] := hl
  refine lv_aload_n hx hb dJ7_copyOf_6403c_0 rfl (lv_at hl 2 rfl) ?_
  refine va_ldcM hx hb hown (hts _ q_cl_J7_110) hMi dJ7_copyOf_6403c_1 ?_
  refine lv_acmp_ne (rx := some mi) (ry := some mi) (tgt := 13) hx hb dJ7_copyOf_6403c_3 (by decide) (fun hno => absurd rfl hno) (fun _ => ?_)
  have hFl := hF.lt
  refine lv_iload_n hx hb dJ7_copyOf_6403c_6 rfl (lv_at hl 1 rfl) ?_
  refine xnewq (D := D) hx hb hown (hts _ q_cl_J7_2) hE.2.2.2.2.2.2.1 hK hS 2 rfl (nI_pos (by omega)) (nI_clamp (n := k) (by omega)) (by omega) (Nat.le_of_ble_eq_true rfl) (Nat.le_trans (show 0 + k ≤ 22 by omega) (Nat.le_of_ble_eq_true rfl)) dJ7_copyOf_6403c_7 (fun q1 H1 hN hS => ?_)
  have hF := hF.kept (hN.2.2.2 _ hF.lt)
  have hQ := hN.1
  have hq0 : s.heap.size ≤ q1 := by rw [hN.2.1]; exact Nat.le_refl _
  have hEl := hEl.kept (fun j hj y hy => hN.2.2.2 y (by obtain ⟨vs, z⟩ := hEl j hj y hy; exact z.lt))
  have hne : dr ≠ q1 := by
    rw [hN.2.1]
    have := hFl
    omega
  refine lv_goto (tgt := 24) hx hb dJ7_copyOf_6403c_10 (by decide) ?_
  refine lv_astore_n (lv' := [(3, .ref (q1)), (0, .ref (dr)), (1, .int (nI (k))), (2, .ref (mi))]) hx hb dJ7_copyOf_6403c_24 rfl hl (by decide) rfl (fun ls hl => ?_)
  refine lv_aload_n hx hb dJ7_copyOf_6403c_25 rfl (lv_at hl 1 rfl) ?_
  refine lv_iconst (v := nI 0) hx hb dJ7_copyOf_6403c_26 (by decide) ?_
  refine lv_aload_n hx hb dJ7_copyOf_6403c_27 rfl (lv_at hl 0 rfl) ?_
  refine lv_iconst (v := nI 0) hx hb dJ7_copyOf_6403c_28 (by decide) ?_
  refine lv_aload_n hx hb dJ7_copyOf_6403c_29 rfl (lv_at hl 1 rfl) ?_
  refine va_alen hx hb hK (xP1 hF) 0 2 rfl rfl (v := nI (cap)) rfl dJ7_copyOf_6403c_30 ?_
  refine lv_iload_n hx hb dJ7_copyOf_6403c_31 rfl (lv_at hl 2 rfl) ?_
  refine va_mmin hx hb (hml.trans hl.1.symm) hown (hts _ q_ml_J7_304) (hts _ q_st_J9_min_7cf53) (hts _ q_ini_J9) (hts _ q_co_min) (Nat.le_of_ble_eq_true rfl) (Nat.le_of_ble_eq_true rfl) (Nat.le_of_ble_eq_true rfl) ((Nat.le_trans (show 0 + k ≤ 22 by omega) (Nat.le_of_ble_eq_true rfl))) dJ7_copyOf_6403c_32 ?_
  refine xtop (show (if nI (k) < nI (cap) then nI (k) else nI (cap)) = nI (min cap k) from mn_nI (by omega) (by omega)) ?_
  refine va_copyq (D := D) hx hb (hml.trans hl.1.symm) hown (hts _ q_ml_J7_150) (hts _ q_na_java_lang_System_arraycopy) (hts _ q_st_java_lang_System_arraycopy) (hts _ q_ini_J10) hK (xP2 hF hQ) (xD2 hne hAd (hAn _ hq0)) hS 0 1 2 2 (E0 := "java/lang/Object") (E1 := "java/lang/Object") (C := r.1) rfl rfl rfl rfl (nI_pos (n := 0) (by omega)) (nI_pos (n := 0) (by omega)) (nI_pos (n := min cap k) (by omega)) (by rw [nI_clamp (n := 0) (by omega), nI_clamp (n := min cap k) (by omega)]; omega) (by rw [nI_clamp (n := 0) (by omega), nI_clamp (n := min cap k) (by omega)]; omega) (fun j hj => by rw [nI_clamp (n := min cap k) (by omega)] at hj; rw [nI_clamp (n := 0) (by omega)]; exact hEl.cell hK hci _ (by omega)) (xcast hE.1 hca) (Nat.le_of_ble_eq_true rfl) (Nat.le_of_ble_eq_true rfl) dJ7_copyOf_6403c_35 (fun H9 locs hP9 _ hS => ?_)
  rw [nI_clamp (n := 0) (by omega), nI_clamp (n := min cap k) (by omega)] at hP9
  have hQ := hP9 1 _ rfl
  refine lv_aload_n hx hb dJ7_copyOf_6403c_38 rfl (lv_at hl 0 rfl) ?_
  have hpost : (fun r h => s.heap.size ≤ r ∧ va_at D vwCl (r, .inl (cA 2, k, .inr (.inr (.inr (.inr (fun j => if j < cap then f j else none)))))) h) (q1) H9 := by
    refine ⟨hq0, ?_⟩
    have e : va_cpy f (fun _ => none) 0 0 (min cap k) = fun j => if j < cap then f j else none := by
      funext j
      unfold va_cpy
      rw [Nat.min_eq_left hk]
      by_cases h : j < cap
      · rw [if_pos (by omega), if_pos h, Nat.zero_add, Nat.sub_zero]
      · rw [if_neg (by omega), if_neg h]
    rw [← e]
    exact hQ
  refine W.widen (k := 1) (n := 22) (by omega) (by omega) ?_
  exact W.aret (v := .ref q1) hx hb hr (Or.inr ⟨_, rfl⟩) (Or.inr ⟨_, rfl⟩) (fun t ht _ => ⟨⟨H9, q1, rfl, trivial, hpost, ht⟩, hS.F ht⟩) hS.2.2 dJ7_copyOf_6403c_39
set_option maxHeartbeats 4000000 in
set_option maxRecDepth 100000 in
/-- Arrays.copyOf(es, k) -/
theorem c_J7_copyOf_1904c (l : Launch) (D : va_G) (cA : Nat → ClassId) (e0 : Nat) (A : Nat → Prop) (H0 : Heap) (dr cap : Nat) (f : Nat → Option Nat) (hF : va_at D vwCl (dr, .inl (cA 2, cap, .inr (.inr (.inr (.inr f))))) H0) (r : vw_C) (ci : Nat) (hci : vwCl[ci]? = some r) (hca : Cond.castable r.1 "java/lang/Object" ∈ xTs) (hEl : xEl D r ci f cap H0) (hAd : A dr) (k : Nat) (hk : cap ≤ k) (hk22 : k ≤ 22) (hAn : ∀ q, H0.size ≤ q → A q) : Met l yJ7_copyOf_1904c w_J7_copyOf_1904c ({ frames := 2, cells := 1, slots := 22, locals := 63 } : Room) (xPc D cA e0 A H0 [.ref (dr), .int (nI (k))]) (xQr (fun r h => H0.size ≤ r ∧ va_at D vwCl (r, .inl (cA 2, k, .inr (.inr (.inr (.inr (fun j => if j < cap then f j else none)))))) h) A) 1 22 (A) := by
  refine Met.ofW (cc := cJ7_copyOf_1904c) (maxL := 2) (ret := (some (.array (.object "java/lang/Object")))) (by decide) rfl ?_
  intro p e s m args below meth c s₁ B hml hv
  obtain ⟨rfl, hH, hE⟩ := hv
  subst hH
  have hx := B.exec
  have hb := B.bytes
  have hr := B.returns
  have hts := hE.1.all ([.ref (dr), .int (nI (k))] : List Value).toArray
  have hown : s.vm.findClass RJ7 = some m.cls := findClass_of_methodNamed B.named
  have hlocks := B.notSynchronized
  have hK := hE.2.1
  have hS : va_S A s.heap s.heap [] := va_S.rf
  have hl := lv_entry ([.ref (dr), .int (nI (k))]) (n := 2) (Nat.le_of_ble_eq_true rfl)
  rw [lg_entry_eq]
  generalize (lg_sl ([.ref (dr), .int (nI (k))]) ++ List.replicate (2 - (lg_sl ([.ref (dr), .int (nI (k))])).length) Slot.unset).toArray = ls at hl ⊢
  have hl : lv_has ls 2 [(0, .ref (dr)), (1, .int (nI (k)))] := hl
  refine lv_aload_n hx hb dJ7_copyOf_1904c_0 rfl (lv_at hl 0 rfl) ?_
  refine lv_iload_n hx hb dJ7_copyOf_1904c_1 rfl (lv_at hl 1 rfl) ?_
  refine lv_aload_n hx hb dJ7_copyOf_1904c_2 rfl (lv_at hl 0 rfl) ?_
  obtain ⟨mi, hMi⟩ := hE.2.2.2.2.2.2.2.2.1
  refine va_getC hx hb (hml.trans hl.1.symm) hown (hts _ q_ml_J7_86) (hts _ q_de_java_lang_Object_getClass) (hts _ q_sel__Ljava_lang_Object__java_lang_Object_getClass) (hts _ q_im_java_lang_Object_getClass) (hts _ q_na_java_lang_Object_getClass) hMi (va_at.clsO hK hF) (Nat.le_of_ble_eq_true rfl) (Nat.le_of_ble_eq_true rfl) dJ7_copyOf_1904c_3 ?_
  refine xcr (va_runS (As := [.ref (dr), .int (nI (k)), .ref (mi)]) (rest := []) ⟨hx, hb, hml, hown, hts⟩ (c_J7_copyOf_6403c l D cA e0 A s.heap dr cap f hF r ci hci hca hEl hAd k hk hk22 hAn mi) ⟨(callB_of 3 hts gi_J7_copyOf_6403c rfl rfl rfl (hts _ q_ini_J7) (hts _ q_ml_J7_300) hd_J7_copyOf_6403c ⟨Nat.le_of_ble_eq_true rfl, Nat.le_of_ble_eq_true rfl⟩), hts _ q_st_J7_copyOf_6403c⟩ (xpSm hE hMi hS (fun _ h => h)) rfl rfl hl.1 rfl (lv_room (Nat.le_of_ble_eq_true rfl)) dJ7_copyOf_1904c_6 ⟨Nat.le_of_ble_eq_true rfl, Nat.le_of_ble_eq_true rfl⟩) hS (fun q h => h) (fun r_1 H1 locs hP9 hz9 hk9 hS => ?_)
  have hpost : (fun r h => s.heap.size ≤ r ∧ va_at D vwCl (r, .inl (cA 2, k, .inr (.inr (.inr (.inr (fun j => if j < cap then f j else none)))))) h) (r_1) H1 := by
    exact hP9
  refine W.widen (k := 1) (n := 22) (by omega) (by omega) ?_
  exact W.aret (v := .ref r_1) hx hb hr (Or.inr ⟨_, rfl⟩) (Or.inr ⟨_, rfl⟩) (fun t ht _ => ⟨⟨H1, r_1, rfl, trivial, hpost, ht⟩, hS.F ht⟩) hS.2.2 dJ7_copyOf_1904c_9
