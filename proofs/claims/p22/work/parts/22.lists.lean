/-! Lists that shrink and grow (by p22.py) -/
theorem xP2 {D : va_G} {H : Heap} {a b : Nat} {e e' : va_E} (h : va_at D vwCl (a, e) H) (h' : va_at D vwCl (b, e') H) : va_P D vwCl [(a, e), (b, e')] H := fun k x hx => by
  have hz : k < 2 := (List.getElem?_eq_some_iff.mp hx).1
  rcases (show k = 0 ∨ k = 1 by omega) with rfl | rfl
  · cases hx; exact h
  · cases hx; exact h'
theorem xD2 {A : Nat → Prop} {a b : Nat} {e e' : va_E} (hn : a ≠ b) (ha : A a) (hb : A b) : va_D A [(a, e), (b, e')] := by
  refine ⟨fun i j p q hi hj h => ?_, fun k q hk => ?_⟩
  · have h1 : i < 2 := (List.getElem?_eq_some_iff.mp hi).1
    have h2 : j < 2 := (List.getElem?_eq_some_iff.mp hj).1
    rcases (show i = 0 ∨ i = 1 by omega) with rfl | rfl <;> rcases (show j = 0 ∨ j = 1 by omega) with rfl | rfl
    · rfl
    · cases hi; cases hj; exact absurd h hn
    · cases hi; cases hj; exact absurd h.symm hn
    · rfl
  · have h1 : k < 2 := (List.getElem?_eq_some_iff.mp hk).1
    rcases (show k = 0 ∨ k = 1 by omega) with rfl | rfl
    · cases hk; exact ha
    · cases hk; exact hb
theorem xcast {s : State} {C E : String} (hts : ∀ w ∈ xTs, w.before #[] s = true) (h : Cond.castable C E ∈ xTs) : ∀ comp c0 : ClassId, s.vm.findClass E = some comp → s.vm.findClass C = some c0 → s.vm.assignable c0 comp = true := by
  intro comp c0 h1 h2
  obtain ⟨c, t, f1, f2, f3⟩ := Cond.castable_spec (hts _ h)
  cases h2.symm.trans f1
  cases h1.symm.trans f2
  exact f3
/-- what an element of a list is -/
def xEl (D : va_G) (r : vw_C) (ci : Nat) (f : Nat → Option Nat) (n : Nat) (H : Heap) : Prop := ∀ j, j < n → ∀ y, f j = some y → ∃ vs, va_at D vwCl (y, .inr (ci, vs)) H
theorem xEl.cell {D : va_G} {cA : Nat → ClassId} {r : vw_C} {ci : Nat} {f : Nat → Option Nat} {n : Nat} {H : Heap} {s : State} (hK : va_K D vwCl (xTy cA) s) (hr : vwCl[ci]? = some r) (h : xEl D r ci f n H) : ∀ j, j < n → ∀ y, f j = some y → ∃ cellV : Cell, H[y]? = some cellV ∧ cellV.vm.isStatics = false ∧ s.vm.findClass r.1 = some cellV.cls := by
  intro j hj y hy
  obtain ⟨vs, h1⟩ := h j hj y hy
  have h2 := va_recv hK (xP1 h1) hr (q0 := 0) rfl
  exact h2
theorem xEl.kept {D : va_G} {r : vw_C} {ci : Nat} {f : Nat → Option Nat} {n : Nat} {H H1 : Heap} (h : xEl D r ci f n H) (hk : ∀ j, j < n → ∀ y, f j = some y → H1[y]? = H[y]?) : xEl D r ci f n H1 := fun j hj y hy => (h j hj y hy).imp fun vs h1 => h1.kept (hk j hj y hy)
/-- a list without its place i -/
def rmF (f : Nat → Option Nat) (i n j : Nat) : Option Nat := if j < i then f j else if j + 1 < n then f (j + 1) else if j + 1 = n then none else f j
theorem rm_cpy {f : Nat → Option Nat} {i n : Nat} (hi : i < n - 1) (j : Nat) : va_up (va_cpy f f (i + 1) i (n - 1 - i)) (n - 1) none j = rmF f i n j := by
  unfold va_up rmF va_cpy
  by_cases h1 : j = n - 1
  · rw [if_pos h1, if_neg (by omega), if_neg (by omega), if_pos (by omega)]
  · rw [if_neg h1]
    by_cases h2 : j < i
    · rw [if_neg (by omega), if_pos h2]
    · by_cases h3 : j + 1 < n
      · rw [if_pos (by omega), if_neg h2, if_pos h3, show i + 1 + (j - i) = j + 1 by omega]
      · rw [if_neg (by omega), if_neg h2, if_neg h3, if_neg (by omega)]
theorem rm_last {f : Nat → Option Nat} {i n : Nat} (hi : n - 1 ≤ i) (hn : i < n) (j : Nat) : va_up f (n - 1) none j = rmF f i n j := by
  unfold va_up rmF
  by_cases h1 : j = n - 1
  · rw [if_pos h1, if_neg (by omega), if_neg (by omega), if_pos (by omega)]
  · rw [if_neg h1]
    by_cases h2 : j < i
    · rw [if_pos h2]
    · rw [if_neg h2, if_neg (by omega), if_neg (by omega)]
set_option maxHeartbeats 4000000 in
set_option maxRecDepth 100000 in
/-- ArrayList.fastRemove(es, i) -/
theorem c_Jx4a65c_fastRemove_b59b0 (l : Launch) (D : va_G) (cA : Nat → ClassId) (e0 : Nat) (A : Nat → Prop) (H0 : Heap) (a0 : Nat) (mc0 : Int32) (dr : Nat) (n : Nat) (hL : va_at D vwCl (a0, .inr (0, [.int mc0, .ref dr, .int (nI n)])) H0) (cap : Nat) (f : Nat → Option Nat) (hF : va_at D vwCl (dr, .inl (cA 2, cap, .inr (.inr (.inr (.inr f))))) H0) (i : Nat) (hi : i < n) (hn : n ≤ cap) (hc : cap < 2 ^ 30) (hAa : A a0) (hAd : A dr) (hne : a0 ≠ dr) (r : vw_C) (ci : Nat) (hci : vwCl[ci]? = some r) (hca : Cond.castable r.1 "java/lang/Object" ∈ xTs) (hEl : xEl D r ci f n H0) (hdis : ∀ j, j < n → ∀ y, f j = some y → y ≠ a0 ∧ y ≠ dr) : Met l yJx4a65c_fastRemove_b59b0 w_Jx4a65c_fastRemove_b59b0 ({ frames := 1, cells := 0, slots := 0, locals := 40 } : Room) (xPc D cA e0 A H0 [.ref (a0), .ref (dr), .int (nI (i))]) (xQv (fun h => va_at D vwCl (a0, .inr (0, [.int (mc0 + nI 1), .ref dr, .int (nI (n - 1))])) h ∧ ∃ f2, va_at D vwCl (dr, .inl (cA 2, cap, .inr (.inr (.inr (.inr f2))))) h ∧ ∀ j, f2 j = rmF f i n j) A) 0 0 (A) := by
  refine Met.ofW (cc := cJx4a65c_fastRemove_b59b0) (maxL := 4) (ret := none) (by decide) rfl ?_
  intro p e s m args below meth c s₁ B hml hv
  obtain ⟨rfl, hH, hE⟩ := hv
  subst hH
  have hx := B.exec
  have hb := B.bytes
  have hr := B.returns
  have hts := hE.1.all ([.ref (a0), .ref (dr), .int (nI (i))] : List Value).toArray
  have hown : s.vm.findClass RJx4a65c = some m.cls := findClass_of_methodNamed B.named
  have hlocks := B.notSynchronized
  have hK := hE.2.1
  have hS : va_S A s.heap s.heap [] := va_S.rf
  have hl := lv_entry ([.ref (a0), .ref (dr), .int (nI (i))]) (n := 4) (Nat.le_of_ble_eq_true rfl)
  rw [lg_entry_eq]
  generalize (lg_sl ([.ref (a0), .ref (dr), .int (nI (i))]) ++ List.replicate (4 - (lg_sl ([.ref (a0), .ref (dr), .int (nI (i))])).length) Slot.unset).toArray = ls at hl ⊢
  have hl : lv_has ls 4 [(0, .ref (a0)), (1, .ref (dr)), (2, .int (nI (i)))] := hl
  refine lv_aload_n hx hb dJx4a65c_fastRemove_b59b0_0 rfl (lv_at hl 0 rfl) ?_
  refine lv_dup hx hb dJx4a65c_fastRemove_b59b0_1 rfl ?_
  refine va_get (D := D) (ci := 0) (v := .int (mc0)) (C := RJx4a65c) (T := TJx4a65c) (N := 3) hx hb hts qi_Jx4a65c hown hK (xP1 hL) 0 rfl rfl 0 (by decide) (hts _ q_fl_Jx4a65c_63) (fun x h9 => u_same (hts _ q_sf_modCount) x h9) rfl dJx4a65c_fastRemove_b59b0_2 ?_
  refine lv_iconst (v := nI 1) hx hb dJx4a65c_fastRemove_b59b0_5 (by decide) ?_
  refine lv_iadd hx hb dJx4a65c_fastRemove_b59b0_6 ?_
  refine xput (D := D) (ci := 0) (v := .int (mc0 + (nI 1))) (C := RJx4a65c) (T := TJx4a65c) (N := 3) hx hb hts qi_Jx4a65c tyJx4a65c tyJx4a65c_ok nmJx4a65c hown hK hS hL hAa rfl 0 (by decide) (hts _ q_fl_Jx4a65c_63) (fun x h9 => u_same (hts _ q_sf_modCount) x h9) rfl (tyJx4a65c_ok 0 (by decide)) rfl rfl (Nat.le_of_ble_eq_true rfl) dJx4a65c_fastRemove_b59b0_7 (fun H1 locs hU hS => ?_)
  have hL := hU.1
  have hF := hF.kept (hU.2.2 _ (Ne.symm hne))
  refine lv_aload_n hx hb dJx4a65c_fastRemove_b59b0_10 rfl (lv_at hl 0 rfl) ?_
  refine va_get (D := D) (ci := 0) (v := .int (nI (n))) (C := RJx4a65c) (T := TJx4a65c) (N := 3) hx hb hts qi_Jx4a65c hown hK (xP1 hL) 0 rfl rfl 2 (by decide) (hts _ q_fl_Jx4a65c_48) (fun _ h9 => h9) rfl dJx4a65c_fastRemove_b59b0_11 ?_
  refine lv_iconst (v := nI 1) hx hb dJx4a65c_fastRemove_b59b0_14 (by decide) ?_
  refine lv_isub hx hb dJx4a65c_fastRemove_b59b0_15 ?_
  refine xtop (show ((nI (n)) - (nI 1)) = nI (n - 1) from pk_sub (by omega)) ?_
  refine lv_dup hx hb dJx4a65c_fastRemove_b59b0_16 rfl ?_
  refine lv_istore_n (lv' := [(3, .int (nI (n - 1))), (0, .ref (a0)), (1, .ref (dr)), (2, .int (nI (i)))]) hx hb dJx4a65c_fastRemove_b59b0_17 rfl hl (by decide) rfl (fun ls hl => ?_)
  refine lv_iload_n hx hb dJx4a65c_fastRemove_b59b0_18 rfl (lv_at hl 3 rfl) ?_
  refine lv_icmp_le (tgt := 34) hx hb dJx4a65c_fastRemove_b59b0_19 (by decide) (fun c19 => ?_) (fun c19 => ?_)
  · have c19 : (n - 1) ≤ i := (nI_leI (a := n - 1) (b := i) (by omega) (by omega)).mp c19
    refine lv_aload_n hx hb dJx4a65c_fastRemove_b59b0_34 rfl (lv_at hl 2 rfl) ?_
    refine lv_aload_n hx hb dJx4a65c_fastRemove_b59b0_35 rfl (lv_at hl 1 rfl) ?_
    refine lv_iload_n hx hb dJx4a65c_fastRemove_b59b0_36 rfl (lv_at hl 0 rfl) ?_
    refine lv_dup_x1 hx hb dJx4a65c_fastRemove_b59b0_37 rfl rfl ?_
    refine xput (D := D) (ci := 0) (v := .int (nI (n - 1))) (C := RJx4a65c) (T := TJx4a65c) (N := 3) hx hb hts qi_Jx4a65c tyJx4a65c tyJx4a65c_ok nmJx4a65c hown hK hS hL hAa rfl 2 (by decide) (hts _ q_fl_Jx4a65c_48) (fun _ h9 => h9) rfl (tyJx4a65c_ok 2 (by decide)) rfl rfl (Nat.le_of_ble_eq_true rfl) dJx4a65c_fastRemove_b59b0_38 (fun H2 locs hU hS => ?_)
    have hL := hU.1
    have hF := hF.kept (hU.2.2 _ (Ne.symm hne))
    refine lv_null hx hb dJx4a65c_fastRemove_b59b0_41 ?_
    refine va_astqN (D := D) hx hb hK (xP2 hF hL) (xD2 (Ne.symm hne) hAd hAa) hS 0 2 (C := "java/lang/Object") rfl rfl (i := nI (n - 1)) (vp_in_nI (n := n - 1) (by omega) (by omega)) dJx4a65c_fastRemove_b59b0_42 (fun H8 locs hP8 _ hS => ?_)
    rw [nI_clamp (n := n - 1) (by omega)] at hP8
    have hF := hP8 0 _ rfl
    have hL := hP8 1 _ rfl
    have hpost : (fun h => va_at D vwCl (a0, .inr (0, [.int (mc0 + nI 1), .ref dr, .int (nI (n - 1))])) h ∧ ∃ f2, va_at D vwCl (dr, .inl (cA 2, cap, .inr (.inr (.inr (.inr f2))))) h ∧ ∀ j, f2 j = rmF f i n j) H8 := by
      exact ⟨hL, _, hF, fun j => rm_last (by omega) hi j⟩
    refine W.widen (k := 0) (n := 0) (by omega) (by omega) ?_
    exact W.vret hx hb hr (fun t ht _ => ⟨⟨H8, rfl, hpost, ht⟩, hS.F ht⟩) hS.2.2 dJx4a65c_fastRemove_b59b0_43
  · have c19 : ¬ ((n - 1) ≤ i) := fun z => c19 ((nI_leI (a := n - 1) (b := i) (by omega) (by omega)).mpr z)
    refine lv_aload_n hx hb dJx4a65c_fastRemove_b59b0_22 rfl (lv_at hl 2 rfl) ?_
    refine lv_iload_n hx hb dJx4a65c_fastRemove_b59b0_23 rfl (lv_at hl 3 rfl) ?_
    refine lv_iconst (v := nI 1) hx hb dJx4a65c_fastRemove_b59b0_24 (by decide) ?_
    refine lv_iadd hx hb dJx4a65c_fastRemove_b59b0_25 ?_
    refine xtop (show ((nI (i)) + (nI 1)) = nI (i + 1) from nI_add i 1) ?_
    refine lv_aload_n hx hb dJx4a65c_fastRemove_b59b0_26 rfl (lv_at hl 2 rfl) ?_
    refine lv_iload_n hx hb dJx4a65c_fastRemove_b59b0_27 rfl (lv_at hl 3 rfl) ?_
    refine lv_iload_n hx hb dJx4a65c_fastRemove_b59b0_28 rfl (lv_at hl 0 rfl) ?_
    refine lv_iload_n hx hb dJx4a65c_fastRemove_b59b0_29 rfl (lv_at hl 3 rfl) ?_
    refine lv_isub hx hb dJx4a65c_fastRemove_b59b0_30 ?_
    refine xtop (show ((nI (n - 1)) - (nI (i))) = nI (n - 1 - i) from pk_sub (by omega)) ?_
    have hEc := (hEl.kept (fun j hj y hy => hU.2.2 y (fun z => (hdis j hj y hy).1 z))).cell hK hci
    refine va_copyq (D := D) hx hb (hml.trans hl.1.symm) hown (hts _ q_ml_Jx4a65c_112) (hts _ q_na_java_lang_System_arraycopy) (hts _ q_st_java_lang_System_arraycopy) (hts _ q_ini_J10) hK (xP2 hF hL) (xD2 (Ne.symm hne) hAd hAa) hS 0 0 2 2 (E0 := "java/lang/Object") (E1 := "java/lang/Object") (C := r.1) rfl rfl rfl rfl (nI_pos (n := i + 1) (by omega)) (nI_pos (n := i) (by omega)) (nI_pos (n := n - 1 - i) (by omega)) (by rw [nI_clamp (n := i + 1) (by omega), nI_clamp (n := n - 1 - i) (by omega)]; omega) (by rw [nI_clamp (n := i) (by omega), nI_clamp (n := n - 1 - i) (by omega)]; omega) (fun j hj => by rw [nI_clamp (n := n - 1 - i) (by omega)] at hj; rw [nI_clamp (n := i + 1) (by omega)]; exact hEc _ (by omega)) (xcast hE.1 hca) (Nat.le_of_ble_eq_true rfl) (Nat.le_of_ble_eq_true rfl) dJx4a65c_fastRemove_b59b0_31 (fun H9 locs hP9 _ hS => ?_)
    rw [nI_clamp (n := i + 1) (by omega), nI_clamp (n := i) (by omega), nI_clamp (n := n - 1 - i) (by omega)] at hP9
    have hF := hP9 0 _ rfl
    have hL := hP9 1 _ rfl
    refine lv_aload_n hx hb dJx4a65c_fastRemove_b59b0_34 rfl (lv_at hl 2 rfl) ?_
    refine lv_aload_n hx hb dJx4a65c_fastRemove_b59b0_35 rfl (lv_at hl 1 rfl) ?_
    refine lv_iload_n hx hb dJx4a65c_fastRemove_b59b0_36 rfl (lv_at hl 0 rfl) ?_
    refine lv_dup_x1 hx hb dJx4a65c_fastRemove_b59b0_37 rfl rfl ?_
    refine xput (D := D) (ci := 0) (v := .int (nI (n - 1))) (C := RJx4a65c) (T := TJx4a65c) (N := 3) hx hb hts qi_Jx4a65c tyJx4a65c tyJx4a65c_ok nmJx4a65c hown hK hS hL hAa rfl 2 (by decide) (hts _ q_fl_Jx4a65c_48) (fun _ h9 => h9) rfl (tyJx4a65c_ok 2 (by decide)) rfl rfl (Nat.le_of_ble_eq_true rfl) dJx4a65c_fastRemove_b59b0_38 (fun H3 locs hU hS => ?_)
    have hL := hU.1
    have hF := hF.kept (hU.2.2 _ (Ne.symm hne))
    refine lv_null hx hb dJx4a65c_fastRemove_b59b0_41 ?_
    refine va_astqN (D := D) hx hb hK (xP2 hF hL) (xD2 (Ne.symm hne) hAd hAa) hS 0 2 (C := "java/lang/Object") rfl rfl (i := nI (n - 1)) (vp_in_nI (n := n - 1) (by omega) (by omega)) dJx4a65c_fastRemove_b59b0_42 (fun H8 locs hP8 _ hS => ?_)
    rw [nI_clamp (n := n - 1) (by omega)] at hP8
    have hF := hP8 0 _ rfl
    have hL := hP8 1 _ rfl
    have hpost : (fun h => va_at D vwCl (a0, .inr (0, [.int (mc0 + nI 1), .ref dr, .int (nI (n - 1))])) h ∧ ∃ f2, va_at D vwCl (dr, .inl (cA 2, cap, .inr (.inr (.inr (.inr f2))))) h ∧ ∀ j, f2 j = rmF f i n j) H8 := by
      exact ⟨hL, _, hF, fun j => rm_cpy (by omega) j⟩
    refine W.widen (k := 0) (n := 0) (by omega) (by omega) ?_
    exact W.vret hx hb hr (fun t ht _ => ⟨⟨H8, rfl, hpost, ht⟩, hS.F ht⟩) hS.2.2 dJx4a65c_fastRemove_b59b0_43
set_option maxHeartbeats 4000000 in
set_option maxRecDepth 100000 in
/-- ArrayList.remove(i) -/
theorem c_Jx4a65c_remove_915e3 (l : Launch) (D : va_G) (cA : Nat → ClassId) (e0 : Nat) (A : Nat → Prop) (H0 : Heap) (a0 : Nat) (mc0 : Int32) (dr : Nat) (n : Nat) (hL : va_at D vwCl (a0, .inr (0, [.int mc0, .ref dr, .int (nI n)])) H0) (cap : Nat) (f : Nat → Option Nat) (hF : va_at D vwCl (dr, .inl (cA 2, cap, .inr (.inr (.inr (.inr f))))) H0) (i : Nat) (hi : i < n) (hn : n ≤ cap) (hc : cap < 2 ^ 30) (hAa : A a0) (hAd : A dr) (hne : a0 ≠ dr) (r : vw_C) (ci : Nat) (hci : vwCl[ci]? = some r) (hca : Cond.castable r.1 "java/lang/Object" ∈ xTs) (hEl : xEl D r ci f n H0) (hdis : ∀ j, j < n → ∀ y, f j = some y → y ≠ a0 ∧ y ≠ dr) (q0 : Nat) (hq : f i = some q0) : Met l yJx4a65c_remove_915e3 w_Jx4a65c_remove_915e3 ({ frames := 2, cells := 0, slots := 0, locals := 63 } : Room) (xPc D cA e0 A H0 [.ref (a0), .int (nI (i))]) (xQr (fun r h => r = q0 ∧ va_at D vwCl (a0, .inr (0, [.int (mc0 + nI 1), .ref dr, .int (nI (n - 1))])) h ∧ ∃ f2, va_at D vwCl (dr, .inl (cA 2, cap, .inr (.inr (.inr (.inr f2))))) h ∧ ∀ j, f2 j = rmF f i n j) A) 0 0 (A) := by
  refine Met.ofW (cc := cJx4a65c_remove_915e3) (maxL := 4) (ret := (some (.object "java/lang/Object"))) (by decide) rfl ?_
  intro p e s m args below meth c s₁ B hml hv
  obtain ⟨rfl, hH, hE⟩ := hv
  subst hH
  have hx := B.exec
  have hb := B.bytes
  have hr := B.returns
  have hts := hE.1.all ([.ref (a0), .int (nI (i))] : List Value).toArray
  have hown : s.vm.findClass RJx4a65c = some m.cls := findClass_of_methodNamed B.named
  have hlocks := B.notSynchronized
  have hK := hE.2.1
  have hS : va_S A s.heap s.heap [] := va_S.rf
  have hl := lv_entry ([.ref (a0), .int (nI (i))]) (n := 4) (Nat.le_of_ble_eq_true rfl)
  rw [lg_entry_eq]
  generalize (lg_sl ([.ref (a0), .int (nI (i))]) ++ List.replicate (4 - (lg_sl ([.ref (a0), .int (nI (i))])).length) Slot.unset).toArray = ls at hl ⊢
  have hl : lv_has ls 4 [(0, .ref (a0)), (1, .int (nI (i)))] := hl
  refine lv_iload_n hx hb dJx4a65c_remove_915e3_0 rfl (lv_at hl 1 rfl) ?_
  refine lv_aload_n hx hb dJx4a65c_remove_915e3_1 rfl (lv_at hl 0 rfl) ?_
  refine va_get (D := D) (ci := 0) (v := .int (nI (n))) (C := RJx4a65c) (T := TJx4a65c) (N := 3) hx hb hts qi_Jx4a65c hown hK (xP1 hL) 0 rfl rfl 2 (by decide) (hts _ q_fl_Jx4a65c_48) (fun _ h9 => h9) rfl dJx4a65c_remove_915e3_2 ?_
  refine xcRi (va_runS (As := [.int (nI (i)), .int (nI (n))]) (rest := []) ⟨hx, hb, hml, hown, hts⟩ (c_J15_checkIndex_7cf53 l D cA e0 A s.heap i n hi (by omega)) ⟨(callB_of 2 hts gi_J15_checkIndex_7cf53 rfl rfl rfl (hts _ q_ini_J15) (hts _ q_ml_Jx4a65c_118) hd_J15_checkIndex_7cf53 ⟨Nat.le_of_ble_eq_true rfl, Nat.le_of_ble_eq_true rfl⟩), hts _ q_st_J15_checkIndex_7cf53⟩ (xpS hE hS) rfl rfl hl.1 rfl (lv_room (Nat.le_of_ble_eq_true rfl)) dJx4a65c_remove_915e3_5 ⟨Nat.le_of_ble_eq_true rfl, Nat.le_of_ble_eq_true rfl⟩) ?_
  refine lv_pop hx hb dJx4a65c_remove_915e3_8 rfl ?_
  refine lv_aload_n hx hb dJx4a65c_remove_915e3_9 rfl (lv_at hl 0 rfl) ?_
  refine va_get (D := D) (ci := 0) (v := .ref (dr)) (C := RJx4a65c) (T := TJx4a65c) (N := 3) hx hb hts qi_Jx4a65c hown hK (xP1 hL) 0 rfl rfl 1 (by decide) (hts _ q_fl_Jx4a65c_9) (fun _ h9 => h9) rfl dJx4a65c_remove_915e3_10 ?_
  refine lv_astore_n (lv' := [(2, .ref (dr)), (0, .ref (a0)), (1, .int (nI (i)))]) hx hb dJx4a65c_remove_915e3_13 rfl hl (by decide) rfl (fun ls hl => ?_)
  refine lv_aload_n hx hb dJx4a65c_remove_915e3_14 rfl (lv_at hl 0 rfl) ?_
  refine lv_iload_n hx hb dJx4a65c_remove_915e3_15 rfl (lv_at hl 2 rfl) ?_
  refine va_aldq hx hb hK (xP1 hF) 0 2 rfl rfl (i := nI (i)) (vp_in_nI (n := i) (by omega) (by omega)) dJx4a65c_remove_915e3_16 ?_
  refine xtopv (y := .ref (q0)) (by rw [nI_clamp (n := i) (by omega), hq] <;> rfl) ?_
  refine lv_astore_n (lv' := [(3, .ref (q0)), (2, .ref (dr)), (0, .ref (a0)), (1, .int (nI (i)))]) hx hb dJx4a65c_remove_915e3_17 rfl hl (by decide) rfl (fun ls hl => ?_)
  refine lv_aload_n hx hb dJx4a65c_remove_915e3_18 rfl (lv_at hl 2 rfl) ?_
  refine lv_aload_n hx hb dJx4a65c_remove_915e3_19 rfl (lv_at hl 1 rfl) ?_
  refine lv_iload_n hx hb dJx4a65c_remove_915e3_20 rfl (lv_at hl 3 rfl) ?_
  refine xcv (va_runV (As := [.ref (dr), .int (nI (i))]) (rest := []) ⟨hx, hb, hml, hown, hts⟩ (c_Jx4a65c_fastRemove_b59b0 l D cA e0 A s.heap a0 mc0 dr n hL cap f hF i hi hn hc hAa hAd hne r ci hci hca hEl hdis) ⟨(callB_of 2 hts gi_Jx4a65c_fastRemove_b59b0 rfl rfl rfl (hts _ q_ini_Jx4a65c) (hts _ q_ml_Jx4a65c_144) hd_Jx4a65c_fastRemove_b59b0 ⟨Nat.le_of_ble_eq_true rfl, Nat.le_of_ble_eq_true rfl⟩), hts _ q_im_Jx4a65c_fastRemove_b59b0, hts _ q_sel_Jx4a65c_Jx4a65c_fastRemove_b59b0⟩ (xpV hE hS hL rfl) rfl rfl hl.1 rfl (lv_room (Nat.le_of_ble_eq_true rfl)) dJx4a65c_remove_915e3_21 ⟨Nat.le_of_ble_eq_true rfl, Nat.le_of_ble_eq_true rfl⟩) hS (fun q h => h) (fun H1 locs hP9 hz9 hk9 hS => ?_)
  refine lv_aload_n hx hb dJx4a65c_remove_915e3_24 rfl (lv_at hl 0 rfl) ?_
  have hpost : (fun r h => r = q0 ∧ va_at D vwCl (a0, .inr (0, [.int (mc0 + nI 1), .ref dr, .int (nI (n - 1))])) h ∧ ∃ f2, va_at D vwCl (dr, .inl (cA 2, cap, .inr (.inr (.inr (.inr f2))))) h ∧ ∀ j, f2 j = rmF f i n j) (q0) H1 := by
    exact ⟨rfl, hP9⟩
  refine W.widen (k := 0) (n := 0) (by omega) (by omega) ?_
  exact W.aret (v := .ref q0) hx hb hr (Or.inl ⟨_, rfl⟩) (Or.inr ⟨_, rfl⟩) (fun t ht _ => ⟨⟨H1, q0, rfl, trivial, hpost, ht⟩, hS.F ht⟩) hS.2.2 dJx4a65c_remove_915e3_25
