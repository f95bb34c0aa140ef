/-! The class: calls that only read (by p13.py) -/
set_option maxHeartbeats 4000000 in
set_option maxRecDepth 100000 in
/-- Integer.bitCount(S) -/
theorem c_J6_bitCount_0f7a4 (l : Launch) (D : va_G) (cA : Nat → ClassId) (e0 : Nat) (A : Nat → Prop) (H0 : Heap) (S : Nat) (hSt : S < 256) : Met l yJ6_bitCount_0f7a4 w_J6_bitCount_0f7a4 ({ frames := 0, cells := 0, slots := 0, locals := 0 } : Room) (xPc D cA e0 A H0 [.int (nI (S))]) (xR (some (.int (nI (bc S))))) 0 0 (xNo) := by
  refine Met.ofW (cc := cJ6_bitCount_0f7a4) (maxL := 1) (ret := (some .int)) (by decide) rfl ?_
  intro p e s m args below meth c s₁ B hml hv
  obtain ⟨rfl, hH, hE⟩ := hv
  subst hH
  have hx := B.exec
  have hb := B.bytes
  have hr := B.returns
  have hts := hE.1.all ([.int (nI (S))] : List Value).toArray
  have hown : s.vm.findClass RJ6 = some m.cls := findClass_of_methodNamed B.named
  have hlocks := B.notSynchronized
  have hK := hE.2.1
  have hS : va_S A s.heap s.heap [] := va_S.rf
  have hl := lv_entry ([.int (nI (S))]) (n := 1) (Nat.le_of_ble_eq_true rfl)
  rw [lg_entry_eq]
  generalize (lg_sl ([.int (nI (S))]) ++ List.replicate (1 - (lg_sl ([.int (nI (S))])).length) Slot.unset).toArray = ls at hl ⊢
  have hl : lv_has ls 1 [(0, .int (nI (S)))] := hl
  refine lv_iload_n hx hb dJ6_bitCount_0f7a4_0 rfl (lv_at hl 0 rfl) ?_
  refine lv_iload_n hx hb dJ6_bitCount_0f7a4_1 rfl (lv_at hl 0 rfl) ?_
  refine lv_iconst (v := nI 1) hx hb dJ6_bitCount_0f7a4_2 (by decide) ?_
  refine lv_iushr (v := ((nI (S)).toUInt32 >>> ((nI 1).toUInt32 &&& Int32.toUInt32 31)).toInt32) hx hb dJ6_bitCount_0f7a4_3 rfl ?_
  refine lv_ldcw (v := nI 1431655765) hx hb hown (hts _ q_ko_J6_265) dJ6_bitCount_0f7a4_4 ?_
  refine lv_iand hx hb dJ6_bitCount_0f7a4_7 ?_
  refine lv_isub hx hb dJ6_bitCount_0f7a4_8 ?_
  refine xtop (show ((nI (S)) - ((((nI (S)).toUInt32 >>> ((nI 1).toUInt32 &&& Int32.toUInt32 31)).toInt32) &&& (nI 1431655765))) = bs1 (nI S) from rfl) ?_
  refine lv_istore_n (lv' := [(0, .int (bs1 (nI S)))]) hx hb dJ6_bitCount_0f7a4_9 rfl hl (by decide) rfl (fun ls hl => ?_)
  refine lv_iload_n hx hb dJ6_bitCount_0f7a4_10 rfl (lv_at hl 0 rfl) ?_
  refine lv_ldcw (v := nI 858993459) hx hb hown (hts _ q_ko_J6_266) dJ6_bitCount_0f7a4_11 ?_
  refine lv_iand hx hb dJ6_bitCount_0f7a4_14 ?_
  refine lv_iload_n hx hb dJ6_bitCount_0f7a4_15 rfl (lv_at hl 0 rfl) ?_
  refine lv_iconst (v := nI 2) hx hb dJ6_bitCount_0f7a4_16 (by decide) ?_
  refine lv_iushr (v := ((bs1 (nI S)).toUInt32 >>> ((nI 2).toUInt32 &&& Int32.toUInt32 31)).toInt32) hx hb dJ6_bitCount_0f7a4_17 rfl ?_
  refine lv_ldcw (v := nI 858993459) hx hb hown (hts _ q_ko_J6_266) dJ6_bitCount_0f7a4_18 ?_
  refine lv_iand hx hb dJ6_bitCount_0f7a4_21 ?_
  refine lv_iadd hx hb dJ6_bitCount_0f7a4_22 ?_
  refine xtop (show (((bs1 (nI S)) &&& (nI 858993459)) + ((((bs1 (nI S)).toUInt32 >>> ((nI 2).toUInt32 &&& Int32.toUInt32 31)).toInt32) &&& (nI 858993459))) = bs2 (bs1 (nI S)) from rfl) ?_
  refine lv_istore_n (lv' := [(0, .int (bs2 (bs1 (nI S))))]) hx hb dJ6_bitCount_0f7a4_23 rfl hl (by decide) rfl (fun ls hl => ?_)
  refine lv_iload_n hx hb dJ6_bitCount_0f7a4_24 rfl (lv_at hl 0 rfl) ?_
  refine lv_iload_n hx hb dJ6_bitCount_0f7a4_25 rfl (lv_at hl 0 rfl) ?_
  refine lv_iconst (v := nI 4) hx hb dJ6_bitCount_0f7a4_26 (by decide) ?_
  refine lv_iushr (v := ((bs2 (bs1 (nI S))).toUInt32 >>> ((nI 4).toUInt32 &&& Int32.toUInt32 31)).toInt32) hx hb dJ6_bitCount_0f7a4_27 rfl ?_
  refine lv_iadd hx hb dJ6_bitCount_0f7a4_28 ?_
  refine lv_ldcw (v := nI 252645135) hx hb hown (hts _ q_ko_J6_267) dJ6_bitCount_0f7a4_29 ?_
  refine lv_iand hx hb dJ6_bitCount_0f7a4_32 ?_
  refine xtop (show (((bs2 (bs1 (nI S))) + (((bs2 (bs1 (nI S))).toUInt32 >>> ((nI 4).toUInt32 &&& Int32.toUInt32 31)).toInt32)) &&& (nI 252645135)) = bs3 (bs2 (bs1 (nI S))) from rfl) ?_
  refine lv_istore_n (lv' := [(0, .int (bs3 (bs2 (bs1 (nI S)))))]) hx hb dJ6_bitCount_0f7a4_33 rfl hl (by decide) rfl (fun ls hl => ?_)
  refine lv_iload_n hx hb dJ6_bitCount_0f7a4_34 rfl (lv_at hl 0 rfl) ?_
  refine lv_iload_n hx hb dJ6_bitCount_0f7a4_35 rfl (lv_at hl 0 rfl) ?_
  refine lv_bipush (v := nI 8) hx hb dJ6_bitCount_0f7a4_36 (by decide) ?_
  refine lv_iushr (v := ((bs3 (bs2 (bs1 (nI S)))).toUInt32 >>> ((nI 8).toUInt32 &&& Int32.toUInt32 31)).toInt32) hx hb dJ6_bitCount_0f7a4_38 rfl ?_
  refine lv_iadd hx hb dJ6_bitCount_0f7a4_39 ?_
  refine xtop (show ((bs3 (bs2 (bs1 (nI S)))) + (((bs3 (bs2 (bs1 (nI S)))).toUInt32 >>> ((nI 8).toUInt32 &&& Int32.toUInt32 31)).toInt32)) = bs4 (bs3 (bs2 (bs1 (nI S)))) from rfl) ?_
  refine lv_istore_n (lv' := [(0, .int (bs4 (bs3 (bs2 (bs1 (nI S))))))]) hx hb dJ6_bitCount_0f7a4_40 rfl hl (by decide) rfl (fun ls hl => ?_)
  refine lv_iload_n hx hb dJ6_bitCount_0f7a4_41 rfl (lv_at hl 0 rfl) ?_
  refine lv_iload_n hx hb dJ6_bitCount_0f7a4_42 rfl (lv_at hl 0 rfl) ?_
  refine lv_bipush (v := nI 16) hx hb dJ6_bitCount_0f7a4_43 (by decide) ?_
  refine lv_iushr (v := ((bs4 (bs3 (bs2 (bs1 (nI S))))).toUInt32 >>> ((nI 16).toUInt32 &&& Int32.toUInt32 31)).toInt32) hx hb dJ6_bitCount_0f7a4_45 rfl ?_
  refine lv_iadd hx hb dJ6_bitCount_0f7a4_46 ?_
  refine xtop (show ((bs4 (bs3 (bs2 (bs1 (nI S))))) + (((bs4 (bs3 (bs2 (bs1 (nI S))))).toUInt32 >>> ((nI 16).toUInt32 &&& Int32.toUInt32 31)).toInt32)) = bs5 (bs4 (bs3 (bs2 (bs1 (nI S))))) from rfl) ?_
  refine lv_istore_n (lv' := [(0, .int (bs5 (bs4 (bs3 (bs2 (bs1 (nI S)))))))]) hx hb dJ6_bitCount_0f7a4_47 rfl hl (by decide) rfl (fun ls hl => ?_)
  refine lv_iload_n hx hb dJ6_bitCount_0f7a4_48 rfl (lv_at hl 0 rfl) ?_
  refine lv_bipush (v := nI 63) hx hb dJ6_bitCount_0f7a4_49 (by decide) ?_
  refine lv_iand hx hb dJ6_bitCount_0f7a4_51 ?_
  refine xtop (show ((bs5 (bs4 (bs3 (bs2 (bs1 (nI S)))))) &&& (nI 63)) = nI (bc S) from bs_bc S hSt) ?_
  exact W.iret (v := (nI (bc S))) hx hb hr (fun t ht _ => ⟨rfl, ht⟩) (fun q hq => absurd hq List.not_mem_nil) dJ6_bitCount_0f7a4_52
set_option maxHeartbeats 4000000 in
set_option maxRecDepth 100000 in
/-- mixedMachine(d, m) -/
theorem c_X4_mixedMachine (l : Launch) (D : va_G) (cA : Nat → ClassId) (e0 : Nat) (A : Nat → Prop) (H0 : Heap) (ad : Nat → Nat → Nat) (g : Nat → Nat → Int32) (tt : Nat → Int64) (N : Nat → Nat) (hX : xW D cA ad g tt N H0) (d0 : Int64) (i0 : Nat) (hi0 : i0 < N 0) : Met l yX4_mixedMachine w_X4_mixedMachine ({ frames := 3, cells := 0, slots := 0, locals := 63 } : Room) (xPc D cA e0 A H0 [.long (d0), .ref (ad 1 i0)]) (xR (some (.long (mixS g i0 (mixF d0 (fun w => (machF g i0 w).toInt64) 5) 6)))) 0 0 (xNo) := by
  refine Met.ofW (cc := cX4_mixedMachine) (maxL := 5) (ret := (some .long)) (by decide) rfl ?_
  intro p e s m args below meth c s₁ B hml hv
  obtain ⟨rfl, hH, hE⟩ := hv
  subst hH
  have hx := B.exec
  have hb := B.bytes
  have hr := B.returns
  have hts := hE.1.all ([.long (d0), .ref (ad 1 i0)] : List Value).toArray
  have hown : s.vm.findClass RX4 = some m.cls := findClass_of_methodNamed B.named
  have hlocks := B.notSynchronized
  have hK := hE.2.1
  have hS : va_S A s.heap s.heap [] := va_S.rf
  have hl := lv_entry ([.long (d0), .ref (ad 1 i0)]) (n := 5) (Nat.le_of_ble_eq_true rfl)
  rw [lg_entry_eq]
  generalize (lg_sl ([.long (d0), .ref (ad 1 i0)]) ++ List.replicate (5 - (lg_sl ([.long (d0), .ref (ad 1 i0)])).length) Slot.unset).toArray = ls at hl ⊢
  have hl : lv_has ls 5 [(0, .long (d0)), (2, .ref (ad 1 i0))] := hl
  refine lv_iconst (v := nI 0) hx hb dX4_mixedMachine_0 (by decide) ?_
  refine lv_istore_n (lv' := [(3, .int (nI 0)), (0, .long (d0)), (2, .ref (ad 1 i0))]) hx hb dX4_mixedMachine_1 rfl hl (by decide) rfl (fun ls hl => ?_)
  have LOOP2 : ∀ (n2 : Nat) (i : Nat) (acc : Int64) (ls : Array Slot), (i ≤ 5) → (acc = mixF d0 (fun w => (machF g i0 w).toInt64) i) → (5 - i) < n2 → lv_has ls 5 [(0, .long (acc)), (3, .int (nI (i))), (2, .ref (ad 1 i0))] → W p l e (headSpec w_X4_mixedMachine ({ frames := 3, cells := 0, slots := 0, locals := 63 } : Room)).room s m ([.long (d0), .ref (ad 1 i0)] : List Value).toArray below meth c s.heap [] 0 0 (MQ below (xR (some (.long (mixS g i0 (mixF d0 (fun w => (machF g i0 w).toInt64) 5) 6)))) ([.long (d0), .ref (ad 1 i0)] : List Value).toArray s 0 0 (xNo)) (F0 m 2 ls []) := by
    intro n2
    induction n2 with
    | zero => intro i acc ls hi hacc hmeas hl; exact absurd hmeas (Nat.not_lt_zero _)
    | succ n2 ih2 =>
      intro i acc ls hi hacc hmeas hl
      refine lv_iload_n hx hb dX4_mixedMachine_2 rfl (lv_at hl 1 rfl) ?_
      refine lv_iconst (v := nI 5) hx hb dX4_mixedMachine_3 (by decide) ?_
      refine lv_icmp_ge (tgt := 24) hx hb dX4_mixedMachine_4 (by decide) (fun c4 => ?_) (fun c4 => ?_)
      · have c4 : 5 ≤ i := (nI_leI (a := 5) (b := i) (by omega) (by omega)).mp c4
        have hi5 : i = 5 := by omega
        refine lv_iconst (v := nI 0) hx hb dX4_mixedMachine_24 (by decide) ?_
        refine lv_istore_n (lv' := [(3, .int (nI 0)), (0, .long (acc)), (2, .ref (ad 1 i0))]) hx hb dX4_mixedMachine_25 rfl hl (by decide) rfl (fun ls hl => ?_)
        have LOOP26 : ∀ (n26 : Nat) (k : Nat) (acc2 : Int64) (ls : Array Slot), (k ≤ 6) → (acc2 = mixS g i0 (mixF d0 (fun w => (machF g i0 w).toInt64) 5) k) → (6 - k) < n26 → lv_has ls 5 [(0, .long (acc2)), (3, .int (nI (k))), (2, .ref (ad 1 i0))] → W p l e (headSpec w_X4_mixedMachine ({ frames := 3, cells := 0, slots := 0, locals := 63 } : Room)).room s m ([.long (d0), .ref (ad 1 i0)] : List Value).toArray below meth c s.heap [] 0 0 (MQ below (xR (some (.long (mixS g i0 (mixF d0 (fun w => (machF g i0 w).toInt64) 5) 6)))) ([.long (d0), .ref (ad 1 i0)] : List Value).toArray s 0 0 (xNo)) (F0 m 26 ls []) := by
          intro n26
          induction n26 with
          | zero => intro k acc2 ls hk hacc2 hmeas hl; exact absurd hmeas (Nat.not_lt_zero _)
          | succ n26 ih26 =>
            intro k acc2 ls hk hacc2 hmeas hl
            refine lv_iload_n hx hb dX4_mixedMachine_26 rfl (lv_at hl 1 rfl) ?_
            refine lv_bipush (v := nI 6) hx hb dX4_mixedMachine_27 (by decide) ?_
            refine lv_icmp_ge (tgt := 71) hx hb dX4_mixedMachine_29 (by decide) (fun c29 => ?_) (fun c29 => ?_)
            · have c29 : 6 ≤ k := (nI_leI (a := 6) (b := k) (by omega) (by omega)).mp c29
              have hk6 : k = 6 := by omega
              refine lv_lload_n hx hb dX4_mixedMachine_71 rfl (lv_at hl 0 rfl) ?_
              have hres : acc2 = mixS g i0 (mixF d0 (fun w => (machF g i0 w).toInt64) 5) 6 := by rw [hacc2]; subst hk6; rfl
              exact W.lret (v := acc2) hx hb hr (fun t ht _ => ⟨congrArg (fun z : Int64 => Outcome.returned (some (Value.long z))) hres, ht⟩) (fun q hq => absurd hq List.not_mem_nil) dX4_mixedMachine_72
            · have c29 : ¬ (6 ≤ k) := fun z => c29 ((nI_leI (a := 6) (b := k) (by omega) (by omega)).mpr z)
              refine lv_iconst (v := nI 0) hx hb dX4_mixedMachine_32 (by decide) ?_
              refine lv_istore (lv' := [(4, .int (nI 0)), (0, .long (acc2)), (3, .int (nI (k))), (2, .ref (ad 1 i0))]) hx hb dX4_mixedMachine_33 hl (by decide) rfl (fun ls hl => ?_)
              have LOOP35 : ∀ (n35 : Nat) (j : Nat) (acc3 : Int64) (ls : Array Slot), (j ≤ 6) → (acc3 = mixF (mixS g i0 (mixF d0 (fun w => (machF g i0 w).toInt64) 5) k) (fun w => (g (4 + w) (6 * i0 + k)).toInt64) j) → (6 - j) < n35 → lv_has ls 5 [(0, .long (acc3)), (4, .int (nI (j))), (3, .int (nI (k))), (2, .ref (ad 1 i0))] → W p l e (headSpec w_X4_mixedMachine ({ frames := 3, cells := 0, slots := 0, locals := 63 } : Room)).room s m ([.long (d0), .ref (ad 1 i0)] : List Value).toArray below meth c s.heap [] 0 0 (MQ below (xR (some (.long (mixS g i0 (mixF d0 (fun w => (machF g i0 w).toInt64) 5) 6)))) ([.long (d0), .ref (ad 1 i0)] : List Value).toArray s 0 0 (xNo)) (F0 m 35 ls []) := by
                intro n35
                induction n35 with
                | zero => intro j acc3 ls hj hacc3 hmeas hl; exact absurd hmeas (Nat.not_lt_zero _)
                | succ n35 ih35 =>
                  intro j acc3 ls hj hacc3 hmeas hl
                  refine lv_iload hx hb dX4_mixedMachine_35 (lv_at hl 1 rfl) ?_
                  refine lv_bipush (v := nI 6) hx hb dX4_mixedMachine_37 (by decide) ?_
                  refine lv_icmp_ge (tgt := 65) hx hb dX4_mixedMachine_39 (by decide) (fun c39 => ?_) (fun c39 => ?_)
                  · have c39 : 6 ≤ j := (nI_leI (a := 6) (b := j) (by omega) (by omega)).mp c39
                    have hj6 : j = 6 := by omega
                    refine lv_iinc (v := nI (k + 1)) (lv' := [(3, .int (nI (k + 1))), (0, .long (acc3)), (4, .int (nI (j))), (2, .ref (ad 1 i0))]) hx hb dX4_mixedMachine_65 hl (k := 2) rfl (nI_add k 1) (by decide) rfl (fun ls hl => ?_)
                    refine lv_goto (tgt := 26) hx hb dX4_mixedMachine_68 (by decide) ?_
                    exact ih26 (k + 1) acc3 _ (by omega) (by rw [hacc3]; subst hj6; rfl) (by omega) (lv_sub hl [1, 0, 3] rfl)
                  · have c39 : ¬ (6 ≤ j) := fun z => c39 ((nI_leI (a := 6) (b := j) (by omega) (by omega)).mpr z)
                    refine lv_lload_n hx hb dX4_mixedMachine_42 rfl (lv_at hl 0 rfl) ?_
                    refine lv_aload_n hx hb dX4_mixedMachine_43 rfl (lv_at hl 3 rfl) ?_
                    refine va_get (D := D) (ci := 1) (v := .ref (ad 2 i0)) (C := RX0) (T := TX0) (N := 4) hx hb hts qi_X0 hown hK (xP1 (hX.mach hi0)) 0 rfl rfl 1 (by decide) (hts _ q_fl_X4_215) (fun _ h9 => h9) rfl dX4_mixedMachine_44 ?_
                    refine lv_iload_n hx hb dX4_mixedMachine_47 rfl (lv_at hl 2 rfl) ?_
                    refine va_aldq hx hb hK (xP1 (hX.row hi0)) 0 3 rfl rfl (i := nI (k)) (vp_in_nI (n := k) (by omega) (by omega)) dX4_mixedMachine_48 ?_
                    refine xtopv (y := .ref (ad 3 (6 * i0 + k))) (by rw [nI_clamp (n := k) (by omega)] <;> rfl) ?_
                    refine lv_iload hx hb dX4_mixedMachine_49 (lv_at hl 1 rfl) ?_
                    refine xcRi (va_runV (As := [.int (nI (j))]) (rest := [.long (acc3)]) ⟨hx, hb, hml, hown, hts⟩ (c_X3_fact l D cA e0 A s.heap ad g tt N hX (6 * i0 + k) j (by omega) (by omega)) ⟨(callB_of 1 hts gi_X3_fact rfl rfl rfl (hts _ q_ini_X3) (hts _ q_ml_X4_134) hd_X3_fact ⟨Nat.le_of_ble_eq_true rfl, Nat.le_of_ble_eq_true rfl⟩), hts _ q_im_X3_fact, hts _ q_sel_X3_X3_fact⟩ (xpV hE hS (hX.slot (k := 6 * i0 + k) (by omega)) rfl) rfl rfl hl.1 rfl (lv_room (Nat.le_of_ble_eq_true rfl)) dX4_mixedMachine_51 ⟨Nat.le_of_ble_eq_true rfl, Nat.le_of_ble_eq_true rfl⟩) ?_
                    refine lv_i2l (v := (g (4 + j) (6 * i0 + k)).toInt64) hx hb dX4_mixedMachine_54 rfl ?_
                    refine xcRl (va_runS (As := [.long (acc3), .long ((g (4 + j) (6 * i0 + k)).toInt64)]) (rest := []) ⟨hx, hb, hml, hown, hts⟩ (c_X4_mixed l D cA e0 A s.heap acc3 ((g (4 + j) (6 * i0 + k)).toInt64)) ⟨(callB_of 2 hts gi_X4_mixed rfl rfl rfl (hts _ q_ini_X4) (hts _ q_ml_X4_221) hd_X4_mixed ⟨Nat.le_of_ble_eq_true rfl, Nat.le_of_ble_eq_true rfl⟩), hts _ q_st_X4_mixed⟩ (xpS hE hS) rfl rfl hl.1 rfl (lv_room (Nat.le_of_ble_eq_true rfl)) dX4_mixedMachine_55 ⟨Nat.le_of_ble_eq_true rfl, Nat.le_of_ble_eq_true rfl⟩) ?_
                    refine lv_lstore_n (lv' := [(0, .long (acc3 * 31 + ((g (4 + j) (6 * i0 + k)).toInt64))), (4, .int (nI (j))), (3, .int (nI (k))), (2, .ref (ad 1 i0))]) hx hb dX4_mixedMachine_58 rfl hl (by decide) rfl (fun ls hl => ?_)
                    refine lv_iinc (v := nI (j + 1)) (lv' := [(4, .int (nI (j + 1))), (0, .long (acc3 * 31 + ((g (4 + j) (6 * i0 + k)).toInt64))), (3, .int (nI (k))), (2, .ref (ad 1 i0))]) hx hb dX4_mixedMachine_59 hl (k := 1) rfl (nI_add j 1) (by decide) rfl (fun ls hl => ?_)
                    refine lv_goto (tgt := 35) hx hb dX4_mixedMachine_62 (by decide) ?_
                    exact ih35 (j + 1) (acc3 * 31 + ((g (4 + j) (6 * i0 + k)).toInt64)) _ (by omega) (by rw [hacc3]; rfl) (by omega) (lv_sub hl [1, 0, 2, 3] rfl)
              exact LOOP35 _ 0 acc2 _ (by omega) (by rw [hacc2]; rfl) (Nat.lt_succ_self _) (lv_sub hl [1, 0, 2, 3] rfl)
        exact LOOP26 _ 0 acc _ (by omega) (by rw [hacc]; subst hi5; rfl) (Nat.lt_succ_self _) (lv_sub hl [1, 0, 2] rfl)
      · have c4 : ¬ (5 ≤ i) := fun z => c4 ((nI_leI (a := 5) (b := i) (by omega) (by omega)).mpr z)
        refine lv_lload_n hx hb dX4_mixedMachine_7 rfl (lv_at hl 0 rfl) ?_
        refine lv_aload_n hx hb dX4_mixedMachine_8 rfl (lv_at hl 2 rfl) ?_
        refine lv_iload_n hx hb dX4_mixedMachine_9 rfl (lv_at hl 1 rfl) ?_
        refine xcRi (va_runV (As := [.int (nI (i))]) (rest := [.long (acc)]) ⟨hx, hb, hml, hown, hts⟩ (c_X0_fact l D cA e0 A s.heap ad g tt N hX i0 hi0 i (by omega)) ⟨(callB_of 1 hts gi_X0_fact rfl rfl rfl (hts _ q_ini_X0) (hts _ q_ml_X4_144) hd_X0_fact ⟨Nat.le_of_ble_eq_true rfl, Nat.le_of_ble_eq_true rfl⟩), hts _ q_im_X0_fact, hts _ q_sel_X0_X0_fact⟩ (xpV hE hS (hX.mach hi0) rfl) rfl rfl hl.1 rfl (lv_room (Nat.le_of_ble_eq_true rfl)) dX4_mixedMachine_10 ⟨Nat.le_of_ble_eq_true rfl, Nat.le_of_ble_eq_true rfl⟩) ?_
        refine lv_i2l (v := (machF g i0 i).toInt64) hx hb dX4_mixedMachine_13 rfl ?_
        refine xcRl (va_runS (As := [.long (acc), .long ((machF g i0 i).toInt64)]) (rest := []) ⟨hx, hb, hml, hown, hts⟩ (c_X4_mixed l D cA e0 A s.heap acc ((machF g i0 i).toInt64)) ⟨(callB_of 2 hts gi_X4_mixed rfl rfl rfl (hts _ q_ini_X4) (hts _ q_ml_X4_221) hd_X4_mixed ⟨Nat.le_of_ble_eq_true rfl, Nat.le_of_ble_eq_true rfl⟩), hts _ q_st_X4_mixed⟩ (xpS hE hS) rfl rfl hl.1 rfl (lv_room (Nat.le_of_ble_eq_true rfl)) dX4_mixedMachine_14 ⟨Nat.le_of_ble_eq_true rfl, Nat.le_of_ble_eq_true rfl⟩) ?_
        refine lv_lstore_n (lv' := [(0, .long (acc * 31 + ((machF g i0 i).toInt64))), (3, .int (nI (i))), (2, .ref (ad 1 i0))]) hx hb dX4_mixedMachine_17 rfl hl (by decide) rfl (fun ls hl => ?_)
        refine lv_iinc (v := nI (i + 1)) (lv' := [(3, .int (nI (i + 1))), (0, .long (acc * 31 + ((machF g i0 i).toInt64))), (2, .ref (ad 1 i0))]) hx hb dX4_mixedMachine_18 hl (k := 1) rfl (nI_add i 1) (by decide) rfl (fun ls hl => ?_)
        refine lv_goto (tgt := 2) hx hb dX4_mixedMachine_21 (by decide) ?_
        exact ih2 (i + 1) (acc * 31 + ((machF g i0 i).toInt64)) _ (by omega) (by rw [hacc]; rfl) (by omega) (lv_sub hl [1, 0, 2] rfl)
  exact LOOP2 _ 0 d0 _ (by omega) rfl (Nat.lt_succ_self _) (lv_sub hl [1, 0, 2] rfl)
set_option maxHeartbeats 4000000 in
set_option maxRecDepth 100000 in
/-- digest() -/
theorem c_X4_digest (l : Launch) (D : va_G) (cA : Nat → ClassId) (e0 : Nat) (A : Nat → Prop) (H0 : Heap) (ad : Nat → Nat → Nat) (g : Nat → Nat → Int32) (tt : Nat → Int64) (N : Nat → Nat) (hX : xW D cA ad g tt N H0) (hA : xA A e0 ad N) : Met l yX4_digest w_X4_digest ({ frames := 4, cells := 0, slots := 0, locals := 87 } : Room) (xPc D cA e0 A H0 [.ref (ad 0 0)]) (xR (some (.long (digF g tt (N 0) (N 1))))) 0 0 (xNo) := by
  refine Met.ofW (cc := cX4_digest) (maxL := 6) (ret := (some .long)) (by decide) rfl ?_
  intro p e s m args below meth c s₁ B hml hv
  obtain ⟨rfl, hH, hE⟩ := hv
  subst hH
  have hx := B.exec
  have hb := B.bytes
  have hr := B.returns
  have hts := hE.1.all ([.ref (ad 0 0)] : List Value).toArray
  have hown : s.vm.findClass RX4 = some m.cls := findClass_of_methodNamed B.named
  have hlocks := B.notSynchronized
  have hK := hE.2.1
  have hS : va_S A s.heap s.heap [] := va_S.rf
  have hl := lv_entry ([.ref (ad 0 0)]) (n := 6) (Nat.le_of_ble_eq_true rfl)
  rw [lg_entry_eq]
  generalize (lg_sl ([.ref (ad 0 0)]) ++ List.replicate (6 - (lg_sl ([.ref (ad 0 0)])).length) Slot.unset).toArray = ls at hl ⊢
  have hl : lv_has ls 6 [(0, .ref (ad 0 0))] := hl
  have hn8 := hA.n8
  refine lv_aload_n hx hb dX4_digest_0 rfl (lv_at hl 0 rfl) ?_
  refine va_get (D := D) (ci := 5) (v := .ref (ad 0 1)) (C := RX4) (T := TX4) (N := 11) hx hb hts qi_X4 hown hK (xP1 (hX.main)) 0 rfl rfl 0 (by decide) (hts _ q_fl_X4_10) (fun _ h9 => h9) rfl dX4_digest_1 ?_
  refine xcRi (va_runV (As := []) (rest := []) ⟨hx, hb, hml, hown, hts⟩ (c_Jx4a65c_size_8abf5 l D cA e0 A s.heap (ad 0 1) (g 18 0) (ad 0 9) (nI (N 0)) (hX.ml)) ⟨(callB_of 0 hts gi_Jx4a65c_size_8abf5 rfl rfl rfl (hts _ q_ini_Jx4a65c) (hts _ q_ml_X4_48) hd_Jx4a65c_size_8abf5 ⟨Nat.le_of_ble_eq_true rfl, Nat.le_of_ble_eq_true rfl⟩), hts _ q_im_Jx4a65c_size_8abf5, hts _ q_sel_Jx4a65c_Jx4a65c_size_8abf5⟩ (xpV hE hS (hX.ml) rfl) rfl rfl hl.1 rfl (lv_room (Nat.le_of_ble_eq_true rfl)) dX4_digest_4 ⟨Nat.le_of_ble_eq_true rfl, Nat.le_of_ble_eq_true rfl⟩) ?_
  refine lv_istore_n (lv' := [(1, .int (nI (N 0))), (0, .ref (ad 0 0))]) hx hb dX4_digest_7 rfl hl (by decide) rfl (fun ls hl => ?_)
  refine lv_ldc2 (v := 211) hx hb hown (hts _ q_ko_X4_219) dX4_digest_8 ?_
  refine lv_aload_n hx hb dX4_digest_11 rfl (lv_at hl 1 rfl) ?_
  refine va_get (D := D) (ci := 5) (v := .int (g 13 0)) (C := RX4) (T := TX4) (N := 11) hx hb hts qi_X4 hown hK (xP1 (hX.main)) 0 rfl rfl 6 (by decide) (hts _ q_fl_X4_115) (fun _ h9 => h9) rfl dX4_digest_12 ?_
  refine lv_i2l (v := (g 13 0).toInt64) hx hb dX4_digest_15 rfl ?_
  refine xcRl (va_runS (As := [.long (211), .long ((g 13 0).toInt64)]) (rest := []) ⟨hx, hb, hml, hown, hts⟩ (c_X4_mixed l D cA e0 A s.heap 211 ((g 13 0).toInt64)) ⟨(callB_of 2 hts gi_X4_mixed rfl rfl rfl (hts _ q_ini_X4) (hts _ q_ml_X4_221) hd_X4_mixed ⟨Nat.le_of_ble_eq_true rfl, Nat.le_of_ble_eq_true rfl⟩), hts _ q_st_X4_mixed⟩ (xpS hE hS) rfl rfl hl.1 rfl (lv_room (Nat.le_of_ble_eq_true rfl)) dX4_digest_16 ⟨Nat.le_of_ble_eq_true rfl, Nat.le_of_ble_eq_true rfl⟩) ?_
  refine lv_iload_n hx hb dX4_digest_19 rfl (lv_at hl 0 rfl) ?_
  refine lv_i2l (v := (nI (N 0)).toInt64) hx hb dX4_digest_20 rfl ?_
  refine xcRl (va_runS (As := [.long (211 * 31 + ((g 13 0).toInt64)), .long ((nI (N 0)).toInt64)]) (rest := []) ⟨hx, hb, hml, hown, hts⟩ (c_X4_mixed l D cA e0 A s.heap (211 * 31 + ((g 13 0).toInt64)) ((nI (N 0)).toInt64)) ⟨(callB_of 2 hts gi_X4_mixed rfl rfl rfl (hts _ q_ini_X4) (hts _ q_ml_X4_221) hd_X4_mixed ⟨Nat.le_of_ble_eq_true rfl, Nat.le_of_ble_eq_true rfl⟩), hts _ q_st_X4_mixed⟩ (xpS hE hS) rfl rfl hl.1 rfl (lv_room (Nat.le_of_ble_eq_true rfl)) dX4_digest_21 ⟨Nat.le_of_ble_eq_true rfl, Nat.le_of_ble_eq_true rfl⟩) ?_
  refine lv_lstore_n (lv' := [(2, .long ((211 * 31 + ((g 13 0).toInt64)) * 31 + ((nI (N 0)).toInt64))), (1, .int (nI (N 0))), (0, .ref (ad 0 0))]) hx hb dX4_digest_24 rfl hl (by decide) rfl (fun ls hl => ?_)
  refine lv_iconst (v := nI 0) hx hb dX4_digest_25 (by decide) ?_
  refine lv_istore (lv' := [(4, .int (nI 0)), (2, .long ((211 * 31 + ((g 13 0).toInt64)) * 31 + ((nI (N 0)).toInt64))), (1, .int (nI (N 0))), (0, .ref (ad 0 0))]) hx hb dX4_digest_26 hl (by decide) rfl (fun ls hl => ?_)
  have LOOP28 : ∀ (n28 : Nat) (i : Nat) (acc : Int64) (ls : Array Slot), (i ≤ N 0) → (acc = dW g ((211 * 31 + (g 13 0).toInt64) * 31 + (nI (N 0)).toInt64) i) → (N 0 - i) < n28 → lv_has ls 6 [(2, .long (acc)), (4, .int (nI (i))), (1, .int (nI (N 0))), (0, .ref (ad 0 0))] → W p l e (headSpec w_X4_digest ({ frames := 4, cells := 0, slots := 0, locals := 87 } : Room)).room s m ([.ref (ad 0 0)] : List Value).toArray below meth c s.heap [] 0 0 (MQ below (xR (some (.long (digF g tt (N 0) (N 1))))) ([.ref (ad 0 0)] : List Value).toArray s 0 0 (xNo)) (F0 m 28 ls []) := by
    intro n28
    induction n28 with
    | zero => intro i acc ls hi hacc hmeas hl; exact absurd hmeas (Nat.not_lt_zero _)
    | succ n28 ih28 =>
      intro i acc ls hi hacc hmeas hl
      refine lv_iload hx hb dX4_digest_28 (lv_at hl 1 rfl) ?_
      refine lv_iload_n hx hb dX4_digest_30 rfl (lv_at hl 2 rfl) ?_
      refine lv_icmp_ge (tgt := 73) hx hb dX4_digest_31 (by decide) (fun c31 => ?_) (fun c31 => ?_)
      · have c31 : (N 0) ≤ i := (nI_leI (a := N 0) (b := i) (by omega) (by omega)).mp c31
        refine lv_iconst (v := nI 0) hx hb dX4_digest_73 (by decide) ?_
        refine lv_istore (lv' := [(4, .int (nI 0)), (2, .long (acc)), (1, .int (nI (N 0))), (0, .ref (ad 0 0))]) hx hb dX4_digest_74 hl (by decide) rfl (fun ls hl => ?_)
        have LOOP76 : ∀ (n76 : Nat) (i : Nat) (acc3 : Int64) (ls : Array Slot), (i ≤ N 0) → (acc3 = dM g (dW g ((211 * 31 + (g 13 0).toInt64) * 31 + (nI (N 0)).toInt64) (N 0)) i) → (N 0 - i) < n76 → lv_has ls 6 [(2, .long (acc3)), (4, .int (nI (i))), (1, .int (nI (N 0))), (0, .ref (ad 0 0))] → W p l e (headSpec w_X4_digest ({ frames := 4, cells := 0, slots := 0, locals := 87 } : Room)).room s m ([.ref (ad 0 0)] : List Value).toArray below meth c s.heap [] 0 0 (MQ below (xR (some (.long (digF g tt (N 0) (N 1))))) ([.ref (ad 0 0)] : List Value).toArray s 0 0 (xNo)) (F0 m 76 ls []) := by
          intro n76
          induction n76 with
          | zero => intro i acc3 ls hi hacc3 hmeas hl; exact absurd hmeas (Nat.not_lt_zero _)
          | succ n76 ih76 =>
            intro i acc3 ls hi hacc3 hmeas hl
            refine lv_iload hx hb dX4_digest_76 (lv_at hl 1 rfl) ?_
            refine lv_iload_n hx hb dX4_digest_78 rfl (lv_at hl 2 rfl) ?_
            refine lv_icmp_ge (tgt := 105) hx hb dX4_digest_79 (by decide) (fun c79 => ?_) (fun c79 => ?_)
            · have c79 : (N 0) ≤ i := (nI_leI (a := N 0) (b := i) (by omega) (by omega)).mp c79
              refine lv_lload_n hx hb dX4_digest_105 rfl (lv_at hl 0 rfl) ?_
              refine lv_aload_n hx hb dX4_digest_106 rfl (lv_at hl 3 rfl) ?_
              refine va_get (D := D) (ci := 5) (v := .ref (ad 0 2)) (C := RX4) (T := TX4) (N := 11) hx hb hts qi_X4 hown hK (xP1 (hX.main)) 0 rfl rfl 1 (by decide) (hts _ q_fl_X4_16) (fun _ h9 => h9) rfl dX4_digest_107 ?_
              refine xcRi (va_runV (As := []) (rest := [.long (acc3)]) ⟨hx, hb, hml, hown, hts⟩ (c_Jx4a65c_size_8abf5 l D cA e0 A s.heap (ad 0 2) (g 18 1) (ad 0 10) (nI (N 1)) (hX.cl)) ⟨(callB_of 0 hts gi_Jx4a65c_size_8abf5 rfl rfl rfl (hts _ q_ini_Jx4a65c) (hts _ q_ml_X4_48) hd_Jx4a65c_size_8abf5 ⟨Nat.le_of_ble_eq_true rfl, Nat.le_of_ble_eq_true rfl⟩), hts _ q_im_Jx4a65c_size_8abf5, hts _ q_sel_Jx4a65c_Jx4a65c_size_8abf5⟩ (xpV hE hS (hX.cl) rfl) rfl rfl hl.1 rfl (lv_room (Nat.le_of_ble_eq_true rfl)) dX4_digest_110 ⟨Nat.le_of_ble_eq_true rfl, Nat.le_of_ble_eq_true rfl⟩) ?_
              refine lv_i2l (v := (nI (N 1)).toInt64) hx hb dX4_digest_113 rfl ?_
              refine xcRl (va_runS (As := [.long (acc3), .long ((nI (N 1)).toInt64)]) (rest := []) ⟨hx, hb, hml, hown, hts⟩ (c_X4_mixed l D cA e0 A s.heap acc3 ((nI (N 1)).toInt64)) ⟨(callB_of 2 hts gi_X4_mixed rfl rfl rfl (hts _ q_ini_X4) (hts _ q_ml_X4_221) hd_X4_mixed ⟨Nat.le_of_ble_eq_true rfl, Nat.le_of_ble_eq_true rfl⟩), hts _ q_st_X4_mixed⟩ (xpS hE hS) rfl rfl hl.1 rfl (lv_room (Nat.le_of_ble_eq_true rfl)) dX4_digest_114 ⟨Nat.le_of_ble_eq_true rfl, Nat.le_of_ble_eq_true rfl⟩) ?_
              refine lv_lstore_n (lv' := [(2, .long (acc3 * 31 + ((nI (N 1)).toInt64))), (4, .int (nI (i))), (1, .int (nI (N 0))), (0, .ref (ad 0 0))]) hx hb dX4_digest_117 rfl hl (by decide) rfl (fun ls hl => ?_)
              refine lv_lload_n hx hb dX4_digest_118 rfl (lv_at hl 0 rfl) ?_
              refine lv_aload_n hx hb dX4_digest_119 rfl (lv_at hl 3 rfl) ?_
              refine va_get (D := D) (ci := 5) (v := .long (tt 0)) (C := RX4) (T := TX4) (N := 11) hx hb hts qi_X4 hown hK (xP1 (hX.main)) 0 rfl rfl 7 (by decide) (hts _ q_fl_X4_209) (fun _ h9 => h9) rfl dX4_digest_120 ?_
              refine xcRl (va_runS (As := [.long (acc3 * 31 + ((nI (N 1)).toInt64)), .long (tt 0)]) (rest := []) ⟨hx, hb, hml, hown, hts⟩ (c_X4_mixed l D cA e0 A s.heap (acc3 * 31 + ((nI (N 1)).toInt64)) (tt 0)) ⟨(callB_of 2 hts gi_X4_mixed rfl rfl rfl (hts _ q_ini_X4) (hts _ q_ml_X4_221) hd_X4_mixed ⟨Nat.le_of_ble_eq_true rfl, Nat.le_of_ble_eq_true rfl⟩), hts _ q_st_X4_mixed⟩ (xpS hE hS) rfl rfl hl.1 rfl (lv_room (Nat.le_of_ble_eq_true rfl)) dX4_digest_123 ⟨Nat.le_of_ble_eq_true rfl, Nat.le_of_ble_eq_true rfl⟩) ?_
              refine lv_aload_n hx hb dX4_digest_126 rfl (lv_at hl 3 rfl) ?_
              refine va_get (D := D) (ci := 5) (v := .long (tt 1)) (C := RX4) (T := TX4) (N := 11) hx hb hts qi_X4 hown hK (xP1 (hX.main)) 0 rfl rfl 8 (by decide) (hts _ q_fl_X4_189) (fun _ h9 => h9) rfl dX4_digest_127 ?_
              refine xcRl (va_runS (As := [.long ((acc3 * 31 + ((nI (N 1)).toInt64)) * 31 + (tt 0)), .long (tt 1)]) (rest := []) ⟨hx, hb, hml, hown, hts⟩ (c_X4_mixed l D cA e0 A s.heap ((acc3 * 31 + ((nI (N 1)).toInt64)) * 31 + (tt 0)) (tt 1)) ⟨(callB_of 2 hts gi_X4_mixed rfl rfl rfl (hts _ q_ini_X4) (hts _ q_ml_X4_221) hd_X4_mixed ⟨Nat.le_of_ble_eq_true rfl, Nat.le_of_ble_eq_true rfl⟩), hts _ q_st_X4_mixed⟩ (xpS hE hS) rfl rfl hl.1 rfl (lv_room (Nat.le_of_ble_eq_true rfl)) dX4_digest_130 ⟨Nat.le_of_ble_eq_true rfl, Nat.le_of_ble_eq_true rfl⟩) ?_
              refine lv_lstore_n (lv' := [(2, .long (((acc3 * 31 + ((nI (N 1)).toInt64)) * 31 + (tt 0)) * 31 + (tt 1))), (4, .int (nI (i))), (1, .int (nI (N 0))), (0, .ref (ad 0 0))]) hx hb dX4_digest_133 rfl hl (by decide) rfl (fun ls hl => ?_)
              refine lv_lload_n hx hb dX4_digest_134 rfl (lv_at hl 0 rfl) ?_
              refine lv_aload_n hx hb dX4_digest_135 rfl (lv_at hl 3 rfl) ?_
              refine va_get (D := D) (ci := 5) (v := .long (tt 2)) (C := RX4) (T := TX4) (N := 11) hx hb hts qi_X4 hown hK (xP1 (hX.main)) 0 rfl rfl 9 (by decide) (hts _ q_fl_X4_212) (fun _ h9 => h9) rfl dX4_digest_136 ?_
              refine xcRl (va_runS (As := [.long (((acc3 * 31 + ((nI (N 1)).toInt64)) * 31 + (tt 0)) * 31 + (tt 1)), .long (tt 2)]) (rest := []) ⟨hx, hb, hml, hown, hts⟩ (c_X4_mixed l D cA e0 A s.heap (((acc3 * 31 + ((nI (N 1)).toInt64)) * 31 + (tt 0)) * 31 + (tt 1)) (tt 2)) ⟨(callB_of 2 hts gi_X4_mixed rfl rfl rfl (hts _ q_ini_X4) (hts _ q_ml_X4_221) hd_X4_mixed ⟨Nat.le_of_ble_eq_true rfl, Nat.le_of_ble_eq_true rfl⟩), hts _ q_st_X4_mixed⟩ (xpS hE hS) rfl rfl hl.1 rfl (lv_room (Nat.le_of_ble_eq_true rfl)) dX4_digest_139 ⟨Nat.le_of_ble_eq_true rfl, Nat.le_of_ble_eq_true rfl⟩) ?_
              refine lv_aload_n hx hb dX4_digest_142 rfl (lv_at hl 3 rfl) ?_
              refine va_get (D := D) (ci := 5) (v := .long (tt 3)) (C := RX4) (T := TX4) (N := 11) hx hb hts qi_X4 hown hK (xP1 (hX.main)) 0 rfl rfl 10 (by decide) (hts _ q_fl_X4_193) (fun _ h9 => h9) rfl dX4_digest_143 ?_
              refine xcRl (va_runS (As := [.long ((((acc3 * 31 + ((nI (N 1)).toInt64)) * 31 + (tt 0)) * 31 + (tt 1)) * 31 + (tt 2)), .long (tt 3)]) (rest := []) ⟨hx, hb, hml, hown, hts⟩ (c_X4_mixed l D cA e0 A s.heap ((((acc3 * 31 + ((nI (N 1)).toInt64)) * 31 + (tt 0)) * 31 + (tt 1)) * 31 + (tt 2)) (tt 3)) ⟨(callB_of 2 hts gi_X4_mixed rfl rfl rfl (hts _ q_ini_X4) (hts _ q_ml_X4_221) hd_X4_mixed ⟨Nat.le_of_ble_eq_true rfl, Nat.le_of_ble_eq_true rfl⟩), hts _ q_st_X4_mixed⟩ (xpS hE hS) rfl rfl hl.1 rfl (lv_room (Nat.le_of_ble_eq_true rfl)) dX4_digest_146 ⟨Nat.le_of_ble_eq_true rfl, Nat.le_of_ble_eq_true rfl⟩) ?_
              have hres : ((((acc3 * 31 + ((nI (N 1)).toInt64)) * 31 + (tt 0)) * 31 + (tt 1)) * 31 + (tt 2)) * 31 + (tt 3) = digF g tt (N 0) (N 1) := by rw [hacc3, show i = N 0 by omega]; rfl
              exact W.lret (v := (((((acc3 * 31 + ((nI (N 1)).toInt64)) * 31 + (tt 0)) * 31 + (tt 1)) * 31 + (tt 2)) * 31 + (tt 3))) hx hb hr (fun t ht _ => ⟨congrArg (fun z : Int64 => Outcome.returned (some (Value.long z))) hres, ht⟩) (fun q hq => absurd hq List.not_mem_nil) dX4_digest_149
            · have c79 : ¬ ((N 0) ≤ i) := fun z => c79 ((nI_leI (a := N 0) (b := i) (by omega) (by omega)).mpr z)
              have c79 : i < N 0 := by omega
              refine lv_lload_n hx hb dX4_digest_82 rfl (lv_at hl 0 rfl) ?_
              refine lv_aload_n hx hb dX4_digest_83 rfl (lv_at hl 3 rfl) ?_
              refine va_get (D := D) (ci := 5) (v := .ref (ad 0 1)) (C := RX4) (T := TX4) (N := 11) hx hb hts qi_X4 hown hK (xP1 (hX.main)) 0 rfl rfl 0 (by decide) (hts _ q_fl_X4_10) (fun _ h9 => h9) rfl dX4_digest_84 ?_
              refine lv_iload hx hb dX4_digest_87 (lv_at hl 1 rfl) ?_
              refine xcRr (va_runV (As := [.int (nI (i))]) (rest := [.long (acc3)]) ⟨hx, hb, hml, hown, hts⟩ (c_Jx4a65c_get_915e3 l D cA e0 A s.heap (ad 0 1) (g 18 0) (ad 0 9) (N 0) (hX.ml) (N 2) (fun j => if j < N 0 then some (ad 1 j) else none) (hX.md (by have := hA.2.2.2.2.2.1; omega)) i (ad 1 i) c79 hA.2.2.2.2.2.1 (by have := hA.2.2.2.2.2.2.1; omega) (if_pos c79)) ⟨(callB_of 1 hts gi_Jx4a65c_get_915e3 rfl rfl rfl (hts _ q_ini_Jx4a65c) (hts _ q_ml_X4_199) hd_Jx4a65c_get_915e3 ⟨Nat.le_of_ble_eq_true rfl, Nat.le_of_ble_eq_true rfl⟩), hts _ q_im_Jx4a65c_get_915e3, hts _ q_sel_Jx4a65c_Jx4a65c_get_915e3⟩ (xpV hE hS (hX.ml) rfl) rfl rfl hl.1 rfl (lv_room (Nat.le_of_ble_eq_true rfl)) dX4_digest_89 ⟨Nat.le_of_ble_eq_true rfl, Nat.le_of_ble_eq_true rfl⟩) ?_
              refine va_castS hx hb hown (hts _ q_cl_X4_57) (hK.1 1 _ rfl).2 (va_recv hK (xP1 (hX.mach c79)) (ci := 1) (q0 := 0) rfl rfl) dX4_digest_92 ?_
              refine xcRl (va_runS (As := [.long (acc3), .ref (ad 1 i)]) (rest := []) ⟨hx, hb, hml, hown, hts⟩ (c_X4_mixedMachine l D cA e0 A s.heap ad g tt N hX acc3 i c79 ) ⟨(callB_of 2 hts gi_X4_mixedMachine rfl rfl rfl (hts _ q_ini_X4) (hts _ q_ml_X4_225) hd_X4_mixedMachine ⟨Nat.le_of_ble_eq_true rfl, Nat.le_of_ble_eq_true rfl⟩), hts _ q_st_X4_mixedMachine⟩ (xpS hE hS) rfl rfl hl.1 rfl (lv_room (Nat.le_of_ble_eq_true rfl)) dX4_digest_95 ⟨Nat.le_of_ble_eq_true rfl, Nat.le_of_ble_eq_true rfl⟩) ?_
              refine lv_lstore_n (lv' := [(2, .long (mixS g i (mixF acc3 (fun w => (machF g i w).toInt64) 5) 6)), (4, .int (nI (i))), (1, .int (nI (N 0))), (0, .ref (ad 0 0))]) hx hb dX4_digest_98 rfl hl (by decide) rfl (fun ls hl => ?_)
              refine lv_iinc (v := nI (i + 1)) (lv' := [(4, .int (nI (i + 1))), (2, .long (mixS g i (mixF acc3 (fun w => (machF g i w).toInt64) 5) 6)), (1, .int (nI (N 0))), (0, .ref (ad 0 0))]) hx hb dX4_digest_99 hl (k := 1) rfl (nI_add i 1) (by decide) rfl (fun ls hl => ?_)
              refine lv_goto (tgt := 76) hx hb dX4_digest_102 (by decide) ?_
              exact ih76 (i + 1) (mixS g i (mixF acc3 (fun w => (machF g i w).toInt64) 5) 6) _ (by omega) (by rw [hacc3]; rfl) (by omega) (lv_sub hl [1, 0, 2, 3] rfl)
        exact LOOP76 _ 0 acc _ (by omega) (by rw [hacc, show i = N 0 by omega]; rfl) (Nat.lt_succ_self _) (lv_sub hl [1, 0, 2, 3] rfl)
      · have c31 : ¬ ((N 0) ≤ i) := fun z => c31 ((nI_leI (a := N 0) (b := i) (by omega) (by omega)).mpr z)
        refine lv_iconst (v := (-1)) hx hb dX4_digest_34 (by decide) ?_
        refine lv_istore (lv' := [(5, .int ((-1))), (2, .long (acc)), (4, .int (nI (i))), (1, .int (nI (N 0))), (0, .ref (ad 0 0))]) hx hb dX4_digest_35 hl (by decide) rfl (fun ls hl => ?_)
        have LOOP37 : ∀ (n37 : Nat) (j : Nat) (acc2 : Int64) (ls : Array Slot), (j ≤ i + 1) → (acc2 = mixF (dW g ((211 * 31 + (g 13 0).toInt64) * 31 + (nI (N 0)).toInt64) i) (fun j => (wy g ((j + 8) % 9) i).toInt64) j) → (i + 1 - j) < n37 → lv_has ls 6 [(2, .long (acc2)), (5, .int (nI j - nI 1)), (4, .int (nI (i))), (1, .int (nI (N 0))), (0, .ref (ad 0 0))] → W p l e (headSpec w_X4_digest ({ frames := 4, cells := 0, slots := 0, locals := 87 } : Room)).room s m ([.ref (ad 0 0)] : List Value).toArray below meth c s.heap [] 0 0 (MQ below (xR (some (.long (digF g tt (N 0) (N 1))))) ([.ref (ad 0 0)] : List Value).toArray s 0 0 (xNo)) (F0 m 37 ls []) := by
          intro n37
          induction n37 with
          | zero => intro j acc2 ls hj hacc2 hmeas hl; exact absurd hmeas (Nat.not_lt_zero _)
          | succ n37 ih37 =>
            intro j acc2 ls hj hacc2 hmeas hl
            refine lv_iload hx hb dX4_digest_37 (lv_at hl 1 rfl) ?_
            refine lv_iload hx hb dX4_digest_39 (lv_at hl 2 rfl) ?_
            refine lv_icmp_ge (tgt := 67) hx hb dX4_digest_41 (by decide) (fun c41 => ?_) (fun c41 => ?_)
            · have hj9 : j = i + 1 := by
                rw [i_le, pk_sub_toInt (by omega) (by omega), nI_toInt (by omega)] at c41
                omega
              refine lv_iinc (v := nI (i + 1)) (lv' := [(4, .int (nI (i + 1))), (2, .long (acc2)), (5, .int (nI j - nI 1)), (1, .int (nI (N 0))), (0, .ref (ad 0 0))]) hx hb dX4_digest_67 hl (k := 2) rfl (nI_add i 1) (by decide) rfl (fun ls hl => ?_)
              refine lv_goto (tgt := 28) hx hb dX4_digest_70 (by decide) ?_
              exact ih28 (i + 1) acc2 _ (by omega) (by rw [hacc2]; subst hj9; rfl) (by omega) (lv_sub hl [1, 0, 3, 4] rfl)
            · have c41 : j < i + 1 := by
                rw [i_le, pk_sub_toInt (by omega) (by omega), nI_toInt (by omega)] at c41
                omega
              refine lv_lload_n hx hb dX4_digest_44 rfl (lv_at hl 0 rfl) ?_
              refine lv_aload_n hx hb dX4_digest_45 rfl (lv_at hl 4 rfl) ?_
              refine va_get (D := D) (ci := 5) (v := .ref (ad 0 3)) (C := RX4) (T := TX4) (N := 11) hx hb hts qi_X4 hown hK (xP1 (hX.main)) 0 rfl rfl 2 (by decide) (hts _ q_fl_X4_22) (fun _ h9 => h9) rfl dX4_digest_46 ?_
              refine lv_iload hx hb dX4_digest_49 (lv_at hl 1 rfl) ?_
              refine lv_iload hx hb dX4_digest_51 (lv_at hl 2 rfl) ?_
              refine xcRi (va_runV (As := [.int (nI j - nI 1), .int (nI (i))]) (rest := [.long (acc2)]) ⟨hx, hb, hml, hown, hts⟩ (c_X2_between l D cA e0 A s.heap ad g tt N hX (nI j - nI 1) (nI i) ((j + 8) % 9) i (isPl_s (by omega)) (isPl_m (by omega))) ⟨(callB_of 2 hts gi_X2_between rfl rfl rfl (hts _ q_ini_X2) (hts _ q_ml_X4_82) hd_X2_between ⟨Nat.le_of_ble_eq_true rfl, Nat.le_of_ble_eq_true rfl⟩), hts _ q_im_X2_between, hts _ q_sel_X2_X2_between⟩ (xpV hE hS (hX.roads) rfl) rfl rfl hl.1 rfl (lv_room (Nat.le_of_ble_eq_true rfl)) dX4_digest_53 ⟨Nat.le_of_ble_eq_true rfl, Nat.le_of_ble_eq_true rfl⟩) ?_
              refine lv_i2l (v := (wy g ((j + 8) % 9) i).toInt64) hx hb dX4_digest_56 rfl ?_
              refine xcRl (va_runS (As := [.long (acc2), .long ((wy g ((j + 8) % 9) i).toInt64)]) (rest := []) ⟨hx, hb, hml, hown, hts⟩ (c_X4_mixed l D cA e0 A s.heap acc2 ((wy g ((j + 8) % 9) i).toInt64)) ⟨(callB_of 2 hts gi_X4_mixed rfl rfl rfl (hts _ q_ini_X4) (hts _ q_ml_X4_221) hd_X4_mixed ⟨Nat.le_of_ble_eq_true rfl, Nat.le_of_ble_eq_true rfl⟩), hts _ q_st_X4_mixed⟩ (xpS hE hS) rfl rfl hl.1 rfl (lv_room (Nat.le_of_ble_eq_true rfl)) dX4_digest_57 ⟨Nat.le_of_ble_eq_true rfl, Nat.le_of_ble_eq_true rfl⟩) ?_
              refine lv_lstore_n (lv' := [(2, .long (acc2 * 31 + ((wy g ((j + 8) % 9) i).toInt64))), (5, .int (nI j - nI 1)), (4, .int (nI (i))), (1, .int (nI (N 0))), (0, .ref (ad 0 0))]) hx hb dX4_digest_60 rfl hl (by decide) rfl (fun ls hl => ?_)
              refine lv_iinc (v := nI (j + 1) - nI 1) (lv' := [(5, .int (nI (j + 1) - nI 1)), (2, .long (acc2 * 31 + ((wy g ((j + 8) % 9) i).toInt64))), (4, .int (nI (i))), (1, .int (nI (N 0))), (0, .ref (ad 0 0))]) hx hb dX4_digest_61 hl (k := 1) rfl (nI_s1 j) (by decide) rfl (fun ls hl => ?_)
              refine lv_goto (tgt := 37) hx hb dX4_digest_64 (by decide) ?_
              exact ih37 (j + 1) (acc2 * 31 + ((wy g ((j + 8) % 9) i).toInt64)) _ (by omega) (by rw [hacc2]; rfl) (by omega) (lv_sub hl [1, 0, 2, 3, 4] rfl)
        exact LOOP37 _ 0 acc _ (by omega) (by rw [hacc]; rfl) (Nat.lt_succ_self _) (lv_sub hl [1, 0, 2, 3, 4] rfl)
  exact LOOP28 _ 0 ((211 * 31 + ((g 13 0).toInt64)) * 31 + ((nI (N 0)).toInt64)) _ (by omega) rfl (Nat.lt_succ_self _) (lv_sub hl [1, 0, 2, 3] rfl)
