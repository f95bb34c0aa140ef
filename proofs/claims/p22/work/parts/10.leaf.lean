/-! The methods that only read, the leaves first (by p10.py) -/
set_option maxHeartbeats 4000000 in
set_option maxRecDepth 100000 in
/-- outside(v, lo, hi) -/
theorem c_X4_outside (l : Launch) (D : va_G) (cA : Nat → ClassId) (e0 : Nat) (A : Nat → Prop) (H0 : Heap) (v lo hi : Int32) : Met l yX4_outside w_X4_outside ({ frames := 0, cells := 0, slots := 0, locals := 0 } : Room) (xPc D cA e0 A H0 [.int (v), .int (lo), .int (hi)]) (xR (some (.int (ouI v lo hi)))) 0 0 (xNo) := by
  refine Met.ofW (cc := cX4_outside) (maxL := 3) (ret := (some .boolean)) (by decide) rfl ?_
  intro p e s m args below meth c s₁ B hml hv
  obtain ⟨rfl, hH, hE⟩ := hv
  subst hH
  have hx := B.exec
  have hb := B.bytes
  have hr := B.returns
  have hts := hE.1.all ([.int (v), .int (lo), .int (hi)] : List Value).toArray
  have hown : s.vm.findClass RX4 = some m.cls := findClass_of_methodNamed B.named
  have hlocks := B.notSynchronized
  have hK := hE.2.1
  have hS : va_S A s.heap s.heap [] := va_S.rf
  have hl := lv_entry ([.int (v), .int (lo), .int (hi)]) (n := 3) (Nat.le_of_ble_eq_true rfl)
  rw [lg_entry_eq]
  generalize (lg_sl ([.int (v), .int (lo), .int (hi)]) ++ List.replicate (3 - (lg_sl ([.int (v), .int (lo), .int (hi)])).length) Slot.unset).toArray = ls at hl ⊢
  have hl : lv_has ls 3 [(0, .int (v)), (1, .int (lo)), (2, .int (hi))] := hl
  refine lv_iload_n hx hb dX4_outside_0 rfl (lv_at hl 0 rfl) ?_
  refine lv_iload_n hx hb dX4_outside_1 rfl (lv_at hl 1 rfl) ?_
  refine lv_icmp_lt (tgt := 10) hx hb dX4_outside_2 (by decide) (fun c2 => ?_) (fun c2 => ?_)
  · refine lv_iconst (v := nI 1) hx hb dX4_outside_10 (by decide) ?_
    refine lv_goto (tgt := 15) hx hb dX4_outside_11 (by decide) ?_
    have hres : nI 1 = ouI v lo hi := by simp [ouI, c2]
    exact W.zret (v := (nI 1)) (ty := .boolean) hx hb hr (by decide) (fun t ht _ => ⟨congrArg (fun z : Int32 => Outcome.returned (some (Value.int z))) hres, ht⟩) (fun q hq => absurd hq List.not_mem_nil) dX4_outside_15
  · refine lv_iload_n hx hb dX4_outside_5 rfl (lv_at hl 0 rfl) ?_
    refine lv_iload_n hx hb dX4_outside_6 rfl (lv_at hl 2 rfl) ?_
    refine lv_icmp_le (tgt := 14) hx hb dX4_outside_7 (by decide) (fun c7 => ?_) (fun c7 => ?_)
    · refine lv_iconst (v := nI 0) hx hb dX4_outside_14 (by decide) ?_
      have hres : nI 0 = ouI v lo hi := by simp [ouI, c2, c7]
      exact W.zret (v := (nI 0)) (ty := .boolean) hx hb hr (by decide) (fun t ht _ => ⟨congrArg (fun z : Int32 => Outcome.returned (some (Value.int z))) hres, ht⟩) (fun q hq => absurd hq List.not_mem_nil) dX4_outside_15
    · refine lv_iconst (v := nI 1) hx hb dX4_outside_10 (by decide) ?_
      refine lv_goto (tgt := 15) hx hb dX4_outside_11 (by decide) ?_
      have hres : nI 1 = ouI v lo hi := by simp [ouI, c2, c7]
      exact W.zret (v := (nI 1)) (ty := .boolean) hx hb hr (by decide) (fun t ht _ => ⟨congrArg (fun z : Int32 => Outcome.returned (some (Value.int z))) hres, ht⟩) (fun q hq => absurd hq List.not_mem_nil) dX4_outside_15
set_option maxHeartbeats 4000000 in
set_option maxRecDepth 100000 in
/-- contains(S, m) -/
theorem c_X4_contains (l : Launch) (D : va_G) (cA : Nat → ClassId) (e0 : Nat) (A : Nat → Prop) (H0 : Heap) (S m0 : Nat) (hSt : S < 256) (hm0 : m0 < 8) : Met l yX4_contains w_X4_contains ({ frames := 0, cells := 0, slots := 0, locals := 0 } : Room) (xPc D cA e0 A H0 [.int (nI (S)), .int (nI (m0))]) (xR (some (.int (if S.testBit m0 then nI 1 else nI 0)))) 0 0 (xNo) := by
  refine Met.ofW (cc := cX4_contains) (maxL := 2) (ret := (some .boolean)) (by decide) rfl ?_
  intro p e s m args below meth c s₁ B hml hv
  obtain ⟨rfl, hH, hE⟩ := hv
  subst hH
  have hx := B.exec
  have hb := B.bytes
  have hr := B.returns
  have hts := hE.1.all ([.int (nI (S)), .int (nI (m0))] : List Value).toArray
  have hown : s.vm.findClass RX4 = some m.cls := findClass_of_methodNamed B.named
  have hlocks := B.notSynchronized
  have hK := hE.2.1
  have hS : va_S A s.heap s.heap [] := va_S.rf
  have hl := lv_entry ([.int (nI (S)), .int (nI (m0))]) (n := 2) (Nat.le_of_ble_eq_true rfl)
  rw [lg_entry_eq]
  generalize (lg_sl ([.int (nI (S)), .int (nI (m0))]) ++ List.replicate (2 - (lg_sl ([.int (nI (S)), .int (nI (m0))])).length) Slot.unset).toArray = ls at hl ⊢
  have hl : lv_has ls 2 [(0, .int (nI (S))), (1, .int (nI (m0)))] := hl
  refine lv_iload_n hx hb dX4_contains_0 rfl (lv_at hl 0 rfl) ?_
  refine lv_iload_n hx hb dX4_contains_1 rfl (lv_at hl 1 rfl) ?_
  refine lv_ishr hx hb dX4_contains_2 ?_
  refine lv_iconst (v := nI 1) hx hb dX4_contains_3 (by decide) ?_
  refine lv_iand hx hb dX4_contains_4 ?_
  refine xtop (show (((nI (S)) >>> (nI (m0) &&& 31)) &&& (nI 1)) = if S.testBit m0 then nI 1 else nI 0 from p_bit S hSt m0 hm0) ?_
  refine lv_if_eq (tgt := 12) hx hb dX4_contains_5 (by decide) (fun c5 => ?_) (fun c5 => ?_)
  · have hbit : ¬ S.testBit m0 = true := fun z => by rw [if_pos z] at c5; exact absurd c5 (by decide)
    refine lv_iconst (v := nI 0) hx hb dX4_contains_12 (by decide) ?_
    have hres : nI 0 = (if S.testBit m0 then nI 1 else nI 0) := by simp [hbit]
    exact W.zret (v := (nI 0)) (ty := .boolean) hx hb hr (by decide) (fun t ht _ => ⟨congrArg (fun z : Int32 => Outcome.returned (some (Value.int z))) hres, ht⟩) (fun q hq => absurd hq List.not_mem_nil) dX4_contains_13
  · have hbit : S.testBit m0 = true := by
      cases hq : S.testBit m0 with
      | true => rfl
      | false => rw [hq] at c5; exact absurd rfl c5
    refine lv_iconst (v := nI 1) hx hb dX4_contains_8 (by decide) ?_
    refine lv_goto (tgt := 13) hx hb dX4_contains_9 (by decide) ?_
    have hres : nI 1 = (if S.testBit m0 then nI 1 else nI 0) := by simp [hbit]
    exact W.zret (v := (nI 1)) (ty := .boolean) hx hb hr (by decide) (fun t ht _ => ⟨congrArg (fun z : Int32 => Outcome.returned (some (Value.int z))) hres, ht⟩) (fun q hq => absurd hq List.not_mem_nil) dX4_contains_13
set_option maxHeartbeats 4000000 in
set_option maxRecDepth 100000 in
/-- without(S, m) where m is in S -/
theorem c_X4_without (l : Launch) (D : va_G) (cA : Nat → ClassId) (e0 : Nat) (A : Nat → Prop) (H0 : Heap) (S m0 : Nat) (hSt : S < 256) (hm0 : m0 < 8) (hbit : S.testBit m0 = true) : Met l yX4_without w_X4_without ({ frames := 0, cells := 0, slots := 0, locals := 0 } : Room) (xPc D cA e0 A H0 [.int (nI (S)), .int (nI (m0))]) (xR (some (.int (nI (S - 2 ^ m0))))) 0 0 (xNo) := by
  refine Met.ofW (cc := cX4_without) (maxL := 2) (ret := (some .int)) (by decide) rfl ?_
  intro p e s m args below meth c s₁ B hml hv
  obtain ⟨rfl, hH, hE⟩ := hv
  subst hH
  have hx := B.exec
  have hb := B.bytes
  have hr := B.returns
  have hts := hE.1.all ([.int (nI (S)), .int (nI (m0))] : List Value).toArray
  have hown : s.vm.findClass RX4 = some m.cls := findClass_of_methodNamed B.named
  have hlocks := B.notSynchronized
  have hK := hE.2.1
  have hS : va_S A s.heap s.heap [] := va_S.rf
  have hl := lv_entry ([.int (nI (S)), .int (nI (m0))]) (n := 2) (Nat.le_of_ble_eq_true rfl)
  rw [lg_entry_eq]
  generalize (lg_sl ([.int (nI (S)), .int (nI (m0))]) ++ List.replicate (2 - (lg_sl ([.int (nI (S)), .int (nI (m0))])).length) Slot.unset).toArray = ls at hl ⊢
  have hl : lv_has ls 2 [(0, .int (nI (S))), (1, .int (nI (m0)))] := hl
  refine lv_iload_n hx hb dX4_without_0 rfl (lv_at hl 0 rfl) ?_
  refine lv_iconst (v := nI 1) hx hb dX4_without_1 (by decide) ?_
  refine lv_iload_n hx hb dX4_without_2 rfl (lv_at hl 1 rfl) ?_
  refine lv_ishl hx hb dX4_without_3 ?_
  refine lv_iconst (v := (-1)) hx hb dX4_without_4 (by decide) ?_
  refine lv_ixor hx hb dX4_without_5 ?_
  refine lv_iand hx hb dX4_without_6 ?_
  refine xtop (show ((nI (S)) &&& (((nI 1) <<< (nI (m0) &&& 31)) ^^^ ((-1)))) = nI (S - 2 ^ m0) from p_wo S hSt m0 hm0 hbit) ?_
  exact W.iret (v := (nI (S - 2 ^ m0))) hx hb hr (fun t ht _ => ⟨rfl, ht⟩) (fun q hq => absurd hq List.not_mem_nil) dX4_without_7
-- not reached: X4_mixed
set_option maxHeartbeats 4000000 in
set_option maxRecDepth 100000 in
/-- Slot.lacking() -/
theorem c_X3_lacking (l : Launch) (D : va_G) (cA : Nat → ClassId) (e0 : Nat) (A : Nat → Prop) (H0 : Heap) (ad : Nat → Nat → Nat) (g : Nat → Nat → Int32) (tt : Nat → Int64) (N : Nat → Nat) (hX : xW D cA ad g tt N H0) (k : Nat) (hk : k < 6 * N 0) : Met l yX3_lacking w_X3_lacking ({ frames := 0, cells := 0, slots := 0, locals := 0 } : Room) (xPc D cA e0 A H0 [.ref (ad 3 k)]) (xR (some (.int (g 4 k - g 5 k)))) 0 0 (xNo) := by
  refine Met.ofW (cc := cX3_lacking) (maxL := 1) (ret := (some .int)) (by decide) rfl ?_
  intro p e s m args below meth c s₁ B hml hv
  obtain ⟨rfl, hH, hE⟩ := hv
  subst hH
  have hx := B.exec
  have hb := B.bytes
  have hr := B.returns
  have hts := hE.1.all ([.ref (ad 3 k)] : List Value).toArray
  have hown : s.vm.findClass RX3 = some m.cls := findClass_of_methodNamed B.named
  have hlocks := B.notSynchronized
  have hK := hE.2.1
  have hS : va_S A s.heap s.heap [] := va_S.rf
  have hl := lv_entry ([.ref (ad 3 k)]) (n := 1) (Nat.le_of_ble_eq_true rfl)
  rw [lg_entry_eq]
  generalize (lg_sl ([.ref (ad 3 k)]) ++ List.replicate (1 - (lg_sl ([.ref (ad 3 k)])).length) Slot.unset).toArray = ls at hl ⊢
  have hl : lv_has ls 1 [(0, .ref (ad 3 k))] := hl
  refine lv_aload_n hx hb dX3_lacking_0 rfl (lv_at hl 0 rfl) ?_
  refine va_get (D := D) (ci := 4) (v := .int (g 4 k)) (C := RX3) (T := TX3) (N := 6) hx hb hts qi_X3 hown hK (xP1 (hX.slot hk)) 0 rfl rfl 0 (by decide) (hts _ q_fl_X3_13) (fun _ h9 => h9) rfl dX3_lacking_1 ?_
  refine lv_aload_n hx hb dX3_lacking_4 rfl (lv_at hl 0 rfl) ?_
  refine va_get (D := D) (ci := 4) (v := .int (g 5 k)) (C := RX3) (T := TX3) (N := 6) hx hb hts qi_X3 hown hK (xP1 (hX.slot hk)) 0 rfl rfl 1 (by decide) (hts _ q_fl_X3_16) (fun _ h9 => h9) rfl dX3_lacking_5 ?_
  refine lv_isub hx hb dX3_lacking_8 ?_
  exact W.iret (v := ((g 4 k) - (g 5 k))) hx hb hr (fun t ht _ => ⟨rfl, ht⟩) (fun q hq => absurd hq List.not_mem_nil) dX3_lacking_9
-- not reached: X3_fact
set_option maxHeartbeats 4000000 in
set_option maxRecDepth 100000 in
/-- Machine.lacking() -/
theorem c_X0_lacking (l : Launch) (D : va_G) (cA : Nat → ClassId) (e0 : Nat) (A : Nat → Prop) (H0 : Heap) (ad : Nat → Nat → Nat) (g : Nat → Nat → Int32) (tt : Nat → Int64) (N : Nat → Nat) (hX : xW D cA ad g tt N H0) (i0 : Nat) (hi0 : i0 < N 0) : Met l yX0_lacking w_X0_lacking ({ frames := 1, cells := 0, slots := 0, locals := 20 } : Room) (xPc D cA e0 A H0 [.ref (ad 1 i0)]) (xR (some (.int (lackF g i0)))) 0 0 (xNo) := by
  refine Met.ofW (cc := cX0_lacking) (maxL := 3) (ret := (some .int)) (by decide) rfl ?_
  intro p e s m args below meth c s₁ B hml hv
  obtain ⟨rfl, hH, hE⟩ := hv
  subst hH
  have hx := B.exec
  have hb := B.bytes
  have hr := B.returns
  have hts := hE.1.all ([.ref (ad 1 i0)] : List Value).toArray
  have hown : s.vm.findClass RX0 = some m.cls := findClass_of_methodNamed B.named
  have hlocks := B.notSynchronized
  have hK := hE.2.1
  have hS : va_S A s.heap s.heap [] := va_S.rf
  have hl := lv_entry ([.ref (ad 1 i0)]) (n := 3) (Nat.le_of_ble_eq_true rfl)
  rw [lg_entry_eq]
  generalize (lg_sl ([.ref (ad 1 i0)]) ++ List.replicate (3 - (lg_sl ([.ref (ad 1 i0)])).length) Slot.unset).toArray = ls at hl ⊢
  have hl : lv_has ls 3 [(0, .ref (ad 1 i0))] := hl
  refine lv_iconst (v := nI 0) hx hb dX0_lacking_0 (by decide) ?_
  refine lv_istore_n (lv' := [(1, .int (nI 0)), (0, .ref (ad 1 i0))]) hx hb dX0_lacking_1 rfl hl (by decide) rfl (fun ls hl => ?_)
  refine lv_iconst (v := nI 0) hx hb dX0_lacking_2 (by decide) ?_
  refine lv_istore_n (lv' := [(2, .int (nI 0)), (1, .int (nI 0)), (0, .ref (ad 1 i0))]) hx hb dX0_lacking_3 rfl hl (by decide) rfl (fun ls hl => ?_)
  have LOOP4 : ∀ (n4 : Nat) (i : Nat) (ls : Array Slot), (i ≤ 6) → (6 - i) < n4 → lv_has ls 3 [(2, .int (nI (i))), (1, .int (sumFrom (nI 0) (fun j => g 4 (6 * i0 + j) - g 5 (6 * i0 + j)) i)), (0, .ref (ad 1 i0))] → W p l e (headSpec w_X0_lacking ({ frames := 1, cells := 0, slots := 0, locals := 20 } : Room)).room s m ([.ref (ad 1 i0)] : List Value).toArray below meth c s.heap [] 0 0 (MQ below (xR (some (.int (lackF g i0)))) ([.ref (ad 1 i0)] : List Value).toArray s 0 0 (xNo)) (F0 m 4 ls []) := by
    intro n4
    induction n4 with
    | zero => intro i ls hi hmeas hl; exact absurd hmeas (Nat.not_lt_zero _)
    | succ n4 ih4 =>
      intro i ls hi hmeas hl
      refine lv_iload_n hx hb dX0_lacking_4 rfl (lv_at hl 0 rfl) ?_
      refine lv_bipush (v := nI 6) hx hb dX0_lacking_5 (by decide) ?_
      refine lv_icmp_ge (tgt := 28) hx hb dX0_lacking_7 (by decide) (fun c7 => ?_) (fun c7 => ?_)
      · have c7 : 6 ≤ i := (nI_leI (a := 6) (b := i) (by omega) (by omega)).mp c7
        have hi6 : i = 6 := by omega
        refine lv_iload_n hx hb dX0_lacking_28 rfl (lv_at hl 1 rfl) ?_
        have hres : sumFrom (nI 0) (fun j => g 4 (6 * i0 + j) - g 5 (6 * i0 + j)) i = lackF g i0 := by subst hi6; rfl
        exact W.iret (v := (sumFrom (nI 0) (fun j => g 4 (6 * i0 + j) - g 5 (6 * i0 + j)) i)) hx hb hr (fun t ht _ => ⟨congrArg (fun z : Int32 => Outcome.returned (some (Value.int z))) hres, ht⟩) (fun q hq => absurd hq List.not_mem_nil) dX0_lacking_29
      · have c7 : ¬ (6 ≤ i) := fun z => c7 ((nI_leI (a := 6) (b := i) (by omega) (by omega)).mpr z)
        refine lv_iload_n hx hb dX0_lacking_10 rfl (lv_at hl 1 rfl) ?_
        refine lv_aload_n hx hb dX0_lacking_11 rfl (lv_at hl 2 rfl) ?_
        refine va_get (D := D) (ci := 1) (v := .ref (ad 2 i0)) (C := RX0) (T := TX0) (N := 4) hx hb hts qi_X0 hown hK (xP1 (hX.mach hi0)) 0 rfl rfl 1 (by decide) (hts _ q_fl_X0_11) (fun _ h9 => h9) rfl dX0_lacking_12 ?_
        refine lv_iload_n hx hb dX0_lacking_15 rfl (lv_at hl 0 rfl) ?_
        refine va_aldq hx hb hK (xP1 (hX.row hi0)) 0 3 rfl rfl (i := nI (i)) (vp_in_nI (n := i) (by omega) (by omega)) dX0_lacking_16 ?_
        refine xtopv (y := .ref (ad 3 (6 * i0 + i))) (by rw [nI_clamp (n := i) (by omega)] <;> rfl) ?_
        refine xcRi (va_runV (As := []) (rest := [.int (sumFrom (nI 0) (fun j => g 4 (6 * i0 + j) - g 5 (6 * i0 + j)) i)]) ⟨hx, hb, hml, hown, hts⟩ (c_X3_lacking l D cA e0 A s.heap ad g tt N hX (6 * i0 + i) (by omega)) ⟨(callB_of 0 hts gi_X3_lacking rfl rfl rfl (hts _ q_ini_X3) (hts _ q_ml_X0_22) hd_X3_lacking ⟨Nat.le_of_ble_eq_true rfl, Nat.le_of_ble_eq_true rfl⟩), hts _ q_im_X3_lacking, hts _ q_sel_X3_X3_lacking⟩ (xpV hE hS (hX.slot (k := 6 * i0 + i) (by omega)) rfl) rfl rfl hl.1 rfl (lv_room (Nat.le_of_ble_eq_true rfl)) dX0_lacking_17 ⟨Nat.le_of_ble_eq_true rfl, Nat.le_of_ble_eq_true rfl⟩) ?_
        refine lv_iadd hx hb dX0_lacking_20 ?_
        refine lv_istore_n (lv' := [(1, .int ((sumFrom (nI 0) (fun j => g 4 (6 * i0 + j) - g 5 (6 * i0 + j)) i) + (g 4 (6 * i0 + i) - g 5 (6 * i0 + i)))), (2, .int (nI (i))), (0, .ref (ad 1 i0))]) hx hb dX0_lacking_21 rfl hl (by decide) rfl (fun ls hl => ?_)
        refine lv_iinc (v := nI (i + 1)) (lv' := [(2, .int (nI (i + 1))), (1, .int ((sumFrom (nI 0) (fun j => g 4 (6 * i0 + j) - g 5 (6 * i0 + j)) i) + (g 4 (6 * i0 + i) - g 5 (6 * i0 + i)))), (0, .ref (ad 1 i0))]) hx hb dX0_lacking_22 hl (k := 1) rfl (nI_add i 1) (by decide) rfl (fun ls hl => ?_)
        refine lv_goto (tgt := 4) hx hb dX0_lacking_25 (by decide) ?_
        exact ih4 (i + 1) _ (by omega) (by omega) (lv_sub hl [0, 1, 2] rfl)
  exact LOOP4 _ 0 _ (by omega) (Nat.lt_succ_self _) (lv_sub hl [0, 1, 2] rfl)
set_option maxHeartbeats 4000000 in
set_option maxRecDepth 100000 in
/-- Machine.gain() -/
theorem c_X0_gain (l : Launch) (D : va_G) (cA : Nat → ClassId) (e0 : Nat) (A : Nat → Prop) (H0 : Heap) (ad : Nat → Nat → Nat) (g : Nat → Nat → Int32) (tt : Nat → Int64) (N : Nat → Nat) (hX : xW D cA ad g tt N H0) (i0 : Nat) (hi0 : i0 < N 0) : Met l yX0_gain w_X0_gain ({ frames := 1, cells := 0, slots := 0, locals := 20 } : Room) (xPc D cA e0 A H0 [.ref (ad 1 i0)]) (xR (some (.int (gainF g i0)))) 0 0 (xNo) := by
  refine Met.ofW (cc := cX0_gain) (maxL := 3) (ret := (some .int)) (by decide) rfl ?_
  intro p e s m args below meth c s₁ B hml hv
  obtain ⟨rfl, hH, hE⟩ := hv
  subst hH
  have hx := B.exec
  have hb := B.bytes
  have hr := B.returns
  have hts := hE.1.all ([.ref (ad 1 i0)] : List Value).toArray
  have hown : s.vm.findClass RX0 = some m.cls := findClass_of_methodNamed B.named
  have hlocks := B.notSynchronized
  have hK := hE.2.1
  have hS : va_S A s.heap s.heap [] := va_S.rf
  have hl := lv_entry ([.ref (ad 1 i0)]) (n := 3) (Nat.le_of_ble_eq_true rfl)
  rw [lg_entry_eq]
  generalize (lg_sl ([.ref (ad 1 i0)]) ++ List.replicate (3 - (lg_sl ([.ref (ad 1 i0)])).length) Slot.unset).toArray = ls at hl ⊢
  have hl : lv_has ls 3 [(0, .ref (ad 1 i0))] := hl
  refine lv_aload_n hx hb dX0_gain_0 rfl (lv_at hl 0 rfl) ?_
  refine va_get (D := D) (ci := 1) (v := .int (g 1 i0)) (C := RX0) (T := TX0) (N := 4) hx hb hts qi_X0 hown hK (xP1 (hX.mach hi0)) 0 rfl rfl 2 (by decide) (hts _ q_fl_X0_26) (fun _ h9 => h9) rfl dX0_gain_1 ?_
  refine lv_istore_n (lv' := [(1, .int (g 1 i0)), (0, .ref (ad 1 i0))]) hx hb dX0_gain_4 rfl hl (by decide) rfl (fun ls hl => ?_)
  refine lv_iconst (v := nI 0) hx hb dX0_gain_5 (by decide) ?_
  refine lv_istore_n (lv' := [(2, .int (nI 0)), (1, .int (g 1 i0)), (0, .ref (ad 1 i0))]) hx hb dX0_gain_6 rfl hl (by decide) rfl (fun ls hl => ?_)
  have LOOP7 : ∀ (n7 : Nat) (i : Nat) (ls : Array Slot), (i ≤ 6) → (6 - i) < n7 → lv_has ls 3 [(2, .int (nI (i))), (1, .int (sumFrom (g 1 i0) (fun j => g 6 (6 * i0 + j) * (g 4 (6 * i0 + j) - g 5 (6 * i0 + j))) i)), (0, .ref (ad 1 i0))] → W p l e (headSpec w_X0_gain ({ frames := 1, cells := 0, slots := 0, locals := 20 } : Room)).room s m ([.ref (ad 1 i0)] : List Value).toArray below meth c s.heap [] 0 0 (MQ below (xR (some (.int (gainF g i0)))) ([.ref (ad 1 i0)] : List Value).toArray s 0 0 (xNo)) (F0 m 7 ls []) := by
    intro n7
    induction n7 with
    | zero => intro i ls hi hmeas hl; exact absurd hmeas (Nat.not_lt_zero _)
    | succ n7 ih7 =>
      intro i ls hi hmeas hl
      refine lv_iload_n hx hb dX0_gain_7 rfl (lv_at hl 0 rfl) ?_
      refine lv_bipush (v := nI 6) hx hb dX0_gain_8 (by decide) ?_
      refine lv_icmp_ge (tgt := 41) hx hb dX0_gain_10 (by decide) (fun c10 => ?_) (fun c10 => ?_)
      · have c10 : 6 ≤ i := (nI_leI (a := 6) (b := i) (by omega) (by omega)).mp c10
        have hi6 : i = 6 := by omega
        refine lv_iload_n hx hb dX0_gain_41 rfl (lv_at hl 1 rfl) ?_
        have hres : sumFrom (g 1 i0) (fun j => g 6 (6 * i0 + j) * (g 4 (6 * i0 + j) - g 5 (6 * i0 + j))) i = gainF g i0 := by subst hi6; rfl
        exact W.iret (v := (sumFrom (g 1 i0) (fun j => g 6 (6 * i0 + j) * (g 4 (6 * i0 + j) - g 5 (6 * i0 + j))) i)) hx hb hr (fun t ht _ => ⟨congrArg (fun z : Int32 => Outcome.returned (some (Value.int z))) hres, ht⟩) (fun q hq => absurd hq List.not_mem_nil) dX0_gain_42
      · have c10 : ¬ (6 ≤ i) := fun z => c10 ((nI_leI (a := 6) (b := i) (by omega) (by omega)).mpr z)
        refine lv_iload_n hx hb dX0_gain_13 rfl (lv_at hl 1 rfl) ?_
        refine lv_aload_n hx hb dX0_gain_14 rfl (lv_at hl 2 rfl) ?_
        refine va_get (D := D) (ci := 1) (v := .ref (ad 2 i0)) (C := RX0) (T := TX0) (N := 4) hx hb hts qi_X0 hown hK (xP1 (hX.mach hi0)) 0 rfl rfl 1 (by decide) (hts _ q_fl_X0_11) (fun _ h9 => h9) rfl dX0_gain_15 ?_
        refine lv_iload_n hx hb dX0_gain_18 rfl (lv_at hl 0 rfl) ?_
        refine va_aldq hx hb hK (xP1 (hX.row hi0)) 0 3 rfl rfl (i := nI (i)) (vp_in_nI (n := i) (by omega) (by omega)) dX0_gain_19 ?_
        refine xtopv (y := .ref (ad 3 (6 * i0 + i))) (by rw [nI_clamp (n := i) (by omega)] <;> rfl) ?_
        refine va_get (D := D) (ci := 4) (v := .int (g 6 (6 * i0 + i))) (C := RX3) (T := TX3) (N := 6) hx hb hts qi_X3 hown hK (xP1 (hX.slot (k := 6 * i0 + i) (by omega))) 0 rfl rfl 2 (by decide) (hts _ q_fl_X0_29) (fun _ h9 => h9) rfl dX0_gain_20 ?_
        refine lv_aload_n hx hb dX0_gain_23 rfl (lv_at hl 2 rfl) ?_
        refine va_get (D := D) (ci := 1) (v := .ref (ad 2 i0)) (C := RX0) (T := TX0) (N := 4) hx hb hts qi_X0 hown hK (xP1 (hX.mach hi0)) 0 rfl rfl 1 (by decide) (hts _ q_fl_X0_11) (fun _ h9 => h9) rfl dX0_gain_24 ?_
        refine lv_iload_n hx hb dX0_gain_27 rfl (lv_at hl 0 rfl) ?_
        refine va_aldq hx hb hK (xP1 (hX.row hi0)) 0 3 rfl rfl (i := nI (i)) (vp_in_nI (n := i) (by omega) (by omega)) dX0_gain_28 ?_
        refine xtopv (y := .ref (ad 3 (6 * i0 + i))) (by rw [nI_clamp (n := i) (by omega)] <;> rfl) ?_
        refine xcRi (va_runV (As := []) (rest := [.int (g 6 (6 * i0 + i)), .int (sumFrom (g 1 i0) (fun j => g 6 (6 * i0 + j) * (g 4 (6 * i0 + j) - g 5 (6 * i0 + j))) i)]) ⟨hx, hb, hml, hown, hts⟩ (c_X3_lacking l D cA e0 A s.heap ad g tt N hX (6 * i0 + i) (by omega)) ⟨(callB_of 0 hts gi_X3_lacking rfl rfl rfl (hts _ q_ini_X3) (hts _ q_ml_X0_22) hd_X3_lacking ⟨Nat.le_of_ble_eq_true rfl, Nat.le_of_ble_eq_true rfl⟩), hts _ q_im_X3_lacking, hts _ q_sel_X3_X3_lacking⟩ (xpV hE hS (hX.slot (k := 6 * i0 + i) (by omega)) rfl) rfl rfl hl.1 rfl (lv_room (Nat.le_of_ble_eq_true rfl)) dX0_gain_29 ⟨Nat.le_of_ble_eq_true rfl, Nat.le_of_ble_eq_true rfl⟩) ?_
        refine lv_imul hx hb dX0_gain_32 ?_
        refine lv_iadd hx hb dX0_gain_33 ?_
        refine lv_istore_n (lv' := [(1, .int ((sumFrom (g 1 i0) (fun j => g 6 (6 * i0 + j) * (g 4 (6 * i0 + j) - g 5 (6 * i0 + j))) i) + ((g 6 (6 * i0 + i)) * (g 4 (6 * i0 + i) - g 5 (6 * i0 + i))))), (2, .int (nI (i))), (0, .ref (ad 1 i0))]) hx hb dX0_gain_34 rfl hl (by decide) rfl (fun ls hl => ?_)
        refine lv_iinc (v := nI (i + 1)) (lv' := [(2, .int (nI (i + 1))), (1, .int ((sumFrom (g 1 i0) (fun j => g 6 (6 * i0 + j) * (g 4 (6 * i0 + j) - g 5 (6 * i0 + j))) i) + ((g 6 (6 * i0 + i)) * (g 4 (6 * i0 + i) - g 5 (6 * i0 + i))))), (0, .ref (ad 1 i0))]) hx hb dX0_gain_35 hl (k := 1) rfl (nI_add i 1) (by decide) rfl (fun ls hl => ?_)
        refine lv_goto (tgt := 7) hx hb dX0_gain_38 (by decide) ?_
        exact ih7 (i + 1) _ (by omega) (by omega) (lv_sub hl [0, 1, 2] rfl)
  exact LOOP7 _ 0 _ (by omega) (Nat.lt_succ_self _) (lv_sub hl [0, 1, 2] rfl)
set_option maxHeartbeats 4000000 in
set_option maxRecDepth 100000 in
/-- Machine.visitTime() -/
theorem c_X0_visitTime (l : Launch) (D : va_G) (cA : Nat → ClassId) (e0 : Nat) (A : Nat → Prop) (H0 : Heap) (ad : Nat → Nat → Nat) (g : Nat → Nat → Int32) (tt : Nat → Int64) (N : Nat → Nat) (hX : xW D cA ad g tt N H0) (i0 : Nat) (hi0 : i0 < N 0) : Met l yX0_visitTime w_X0_visitTime ({ frames := 2, cells := 0, slots := 0, locals := 42 } : Room) (xPc D cA e0 A H0 [.ref (ad 1 i0)]) (xR (some (.int (vtF g i0)))) 0 0 (xNo) := by
  refine Met.ofW (cc := cX0_visitTime) (maxL := 1) (ret := (some .int)) (by decide) rfl ?_
  intro p e s m args below meth c s₁ B hml hv
  obtain ⟨rfl, hH, hE⟩ := hv
  subst hH
  have hx := B.exec
  have hb := B.bytes
  have hr := B.returns
  have hts := hE.1.all ([.ref (ad 1 i0)] : List Value).toArray
  have hown : s.vm.findClass RX0 = some m.cls := findClass_of_methodNamed B.named
  have hlocks := B.notSynchronized
  have hK := hE.2.1
  have hS : va_S A s.heap s.heap [] := va_S.rf
  have hl := lv_entry ([.ref (ad 1 i0)]) (n := 1) (Nat.le_of_ble_eq_true rfl)
  rw [lg_entry_eq]
  generalize (lg_sl ([.ref (ad 1 i0)]) ++ List.replicate (1 - (lg_sl ([.ref (ad 1 i0)])).length) Slot.unset).toArray = ls at hl ⊢
  have hl : lv_has ls 1 [(0, .ref (ad 1 i0))] := hl
  refine lv_iconst (v := nI 3) hx hb dX0_visitTime_0 (by decide) ?_
  refine lv_aload_n hx hb dX0_visitTime_1 rfl (lv_at hl 0 rfl) ?_
  refine xcRi (va_runV (As := []) (rest := [.int (nI 3)]) ⟨hx, hb, hml, hown, hts⟩ (c_X0_lacking l D cA e0 A s.heap ad g tt N hX i0 hi0) ⟨(callB_of 0 hts gi_X0_lacking rfl rfl rfl (hts _ q_ini_X0) (hts _ q_ml_X0_32) hd_X0_lacking ⟨Nat.le_of_ble_eq_true rfl, Nat.le_of_ble_eq_true rfl⟩), hts _ q_im_X0_lacking, hts _ q_sel_X0_X0_lacking⟩ (xpV hE hS (hX.mach hi0) rfl) rfl rfl hl.1 rfl (lv_room (Nat.le_of_ble_eq_true rfl)) dX0_visitTime_2 ⟨Nat.le_of_ble_eq_true rfl, Nat.le_of_ble_eq_true rfl⟩) ?_
  refine lv_iconst (v := nI 4) hx hb dX0_visitTime_5 (by decide) ?_
  refine lv_iadd hx hb dX0_visitTime_6 ?_
  refine lv_iconst (v := nI 5) hx hb dX0_visitTime_7 (by decide) ?_
  refine lv_idiv hx hb dX0_visitTime_8 (by decide) ?_
  refine lv_iadd hx hb dX0_visitTime_9 ?_
  exact W.iret (v := ((nI 3) + (((lackF g i0) + (nI 4)) / (nI 5)))) hx hb hr (fun t ht _ => ⟨rfl, ht⟩) (fun q hq => absurd hq List.not_mem_nil) dX0_visitTime_10
theorem machF_0 (g : Nat → Nat → Int32) (i : Nat) : machF g i 0 = g 1 i := rfl
theorem machF_1 (g : Nat → Nat → Int32) (i : Nat) : machF g i 1 = g 0 i := rfl
theorem machF_2 (g : Nat → Nat → Int32) (i : Nat) : machF g i 2 = lackF g i := rfl
theorem machF_3 (g : Nat → Nat → Int32) (i : Nat) : machF g i 3 = gainF g i := rfl
theorem machF_4 (g : Nat → Nat → Int32) (i : Nat) : machF g i 4 = g 2 i := rfl
set_option maxHeartbeats 4000000 in
set_option maxRecDepth 100000 in
/-- Machine.fact(w) -/
theorem c_X0_fact (l : Launch) (D : va_G) (cA : Nat → ClassId) (e0 : Nat) (A : Nat → Prop) (H0 : Heap) (ad : Nat → Nat → Nat) (g : Nat → Nat → Int32) (tt : Nat → Int64) (N : Nat → Nat) (hX : xW D cA ad g tt N H0) (i0 : Nat) (hi0 : i0 < N 0) (w : Nat) (hw : w < 5) : Met l yX0_fact w_X0_fact ({ frames := 2, cells := 0, slots := 0, locals := 42 } : Room) (xPc D cA e0 A H0 [.ref (ad 1 i0), .int (nI (w))]) (xR (some (.int (machF g i0 w)))) 0 0 (xNo) := by
  refine Met.ofW (cc := cX0_fact) (maxL := 2) (ret := (some .int)) (by decide) rfl ?_
  intro p e s m args below meth c s₁ B hml hv
  obtain ⟨rfl, hH, hE⟩ := hv
  subst hH
  have hx := B.exec
  have hb := B.bytes
  have hr := B.returns
  have hts := hE.1.all ([.ref (ad 1 i0), .int (nI (w))] : List Value).toArray
  have hown : s.vm.findClass RX0 = some m.cls := findClass_of_methodNamed B.named
  have hlocks := B.notSynchronized
  have hK := hE.2.1
  have hS : va_S A s.heap s.heap [] := va_S.rf
  have hl := lv_entry ([.ref (ad 1 i0), .int (nI (w))]) (n := 2) (Nat.le_of_ble_eq_true rfl)
  rw [lg_entry_eq]
  generalize (lg_sl ([.ref (ad 1 i0), .int (nI (w))]) ++ List.replicate (2 - (lg_sl ([.ref (ad 1 i0), .int (nI (w))])).length) Slot.unset).toArray = ls at hl ⊢
  have hl : lv_has ls 2 [(0, .ref (ad 1 i0)), (1, .int (nI (w)))] := hl
  refine lv_iload_n hx hb dX0_fact_0 rfl (lv_at hl 1 rfl) ?_
  by_cases hw0 : w = 0
  · subst hw0
    refine lv_tableIn (tgt := 32) (off := 31) hx hb dX0_fact_1 (by decide) (by decide) (by decide) (by decide) ?_
    refine lv_aload_n hx hb dX0_fact_32 rfl (lv_at hl 0 rfl) ?_
    refine va_get (D := D) (ci := 1) (v := .int (g 1 i0)) (C := RX0) (T := TX0) (N := 4) hx hb hts qi_X0 hown hK (xP1 (hX.mach hi0)) 0 rfl rfl 2 (by decide) (hts _ q_fl_X0_26) (fun _ h9 => h9) rfl dX0_fact_33 ?_
    have hres : g 1 i0 = machF g i0 0 := (machF_0 g i0).symm
    exact W.iret (v := (g 1 i0)) hx hb hr (fun t ht _ => ⟨congrArg (fun z : Int32 => Outcome.returned (some (Value.int z))) hres, ht⟩) (fun q hq => absurd hq List.not_mem_nil) dX0_fact_36
  by_cases hw1 : w = 1
  · subst hw1
    refine lv_tableIn (tgt := 37) (off := 36) hx hb dX0_fact_1 (by decide) (by decide) (by decide) (by decide) ?_
    refine lv_aload_n hx hb dX0_fact_37 rfl (lv_at hl 0 rfl) ?_
    refine va_get (D := D) (ci := 1) (v := .int (g 0 i0)) (C := RX0) (T := TX0) (N := 4) hx hb hts qi_X0 hown hK (xP1 (hX.mach hi0)) 0 rfl rfl 0 (by decide) (hts _ q_fl_X0_17) (fun _ h9 => h9) rfl dX0_fact_38 ?_
    have hres : g 0 i0 = machF g i0 1 := (machF_1 g i0).symm
    exact W.iret (v := (g 0 i0)) hx hb hr (fun t ht _ => ⟨congrArg (fun z : Int32 => Outcome.returned (some (Value.int z))) hres, ht⟩) (fun q hq => absurd hq List.not_mem_nil) dX0_fact_41
  by_cases hw2 : w = 2
  · subst hw2
    refine lv_tableIn (tgt := 42) (off := 41) hx hb dX0_fact_1 (by decide) (by decide) (by decide) (by decide) ?_
    refine lv_aload_n hx hb dX0_fact_42 rfl (lv_at hl 0 rfl) ?_
    refine xcRi (va_runV (As := []) (rest := []) ⟨hx, hb, hml, hown, hts⟩ (c_X0_lacking l D cA e0 A s.heap ad g tt N hX i0 hi0) ⟨(callB_of 0 hts gi_X0_lacking rfl rfl rfl (hts _ q_ini_X0) (hts _ q_ml_X0_32) hd_X0_lacking ⟨Nat.le_of_ble_eq_true rfl, Nat.le_of_ble_eq_true rfl⟩), hts _ q_im_X0_lacking, hts _ q_sel_X0_X0_lacking⟩ (xpV hE hS (hX.mach hi0) rfl) rfl rfl hl.1 rfl (lv_room (Nat.le_of_ble_eq_true rfl)) dX0_fact_43 ⟨Nat.le_of_ble_eq_true rfl, Nat.le_of_ble_eq_true rfl⟩) ?_
    have hres : lackF g i0 = machF g i0 2 := (machF_2 g i0).symm
    exact W.iret (v := (lackF g i0)) hx hb hr (fun t ht _ => ⟨congrArg (fun z : Int32 => Outcome.returned (some (Value.int z))) hres, ht⟩) (fun q hq => absurd hq List.not_mem_nil) dX0_fact_46
  by_cases hw3 : w = 3
  · subst hw3
    refine lv_tableIn (tgt := 47) (off := 46) hx hb dX0_fact_1 (by decide) (by decide) (by decide) (by decide) ?_
    refine lv_aload_n hx hb dX0_fact_47 rfl (lv_at hl 0 rfl) ?_
    refine xcRi (va_runV (As := []) (rest := []) ⟨hx, hb, hml, hown, hts⟩ (c_X0_gain l D cA e0 A s.heap ad g tt N hX i0 hi0) ⟨(callB_of 0 hts gi_X0_gain rfl rfl rfl (hts _ q_ini_X0) (hts _ q_ml_X0_33) hd_X0_gain ⟨Nat.le_of_ble_eq_true rfl, Nat.le_of_ble_eq_true rfl⟩), hts _ q_im_X0_gain, hts _ q_sel_X0_X0_gain⟩ (xpV hE hS (hX.mach hi0) rfl) rfl rfl hl.1 rfl (lv_room (Nat.le_of_ble_eq_true rfl)) dX0_fact_48 ⟨Nat.le_of_ble_eq_true rfl, Nat.le_of_ble_eq_true rfl⟩) ?_
    have hres : gainF g i0 = machF g i0 3 := (machF_3 g i0).symm
    exact W.iret (v := (gainF g i0)) hx hb hr (fun t ht _ => ⟨congrArg (fun z : Int32 => Outcome.returned (some (Value.int z))) hres, ht⟩) (fun q hq => absurd hq List.not_mem_nil) dX0_fact_51
  refine lv_tableOut (tgt := 52) hx hb dX0_fact_1 (Or.inr (by rw [nI_toInt (by omega)]; omega)) (by decide) ?_
  refine lv_aload_n hx hb dX0_fact_52 rfl (lv_at hl 0 rfl) ?_
  refine va_get (D := D) (ci := 1) (v := .int (g 2 i0)) (C := RX0) (T := TX0) (N := 4) hx hb hts qi_X0 hown hK (xP1 (hX.mach hi0)) 0 rfl rfl 3 (by decide) (hts _ q_fl_X0_36) (fun _ h9 => h9) rfl dX0_fact_53 ?_
  have hres : g 2 i0 = machF g i0 w := by rw [show w = 4 by omega, machF_4]
  exact W.iret (v := (g 2 i0)) hx hb hr (fun t ht _ => ⟨congrArg (fun z : Int32 => Outcome.returned (some (Value.int z))) hres, ht⟩) (fun q hq => absurd hq List.not_mem_nil) dX0_fact_56
