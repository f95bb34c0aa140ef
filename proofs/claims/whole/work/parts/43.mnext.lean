/-! The model: the next machine (by p43.py) -/
set_option maxHeartbeats 4000000 in
set_option maxRecDepth 100000 in
/-- model.nextOf(S, a) -/
theorem c_X5_nextOf (l : Launch) (D : va_G) (cA : Nat → ClassId) (e0 : Nat) (A : Nat → Prop) (H0 : Heap) (b : Nat → Nat) (g : Nat → Nat → Int32) (tt : Nat → Int64) (n np : Nat) (hX : yW D cA b g tt n np H0) (S a : Nat) (hSt : S < 256) (h0 : S ≠ 0) (ha : a ≤ 8) (hrs : rsAll g S) : Met l yX5_nextOf w_X5_nextOf ({ frames := 1, cells := 0, slots := 0, locals := 22 } : Room) (xPc D cA e0 A H0 [.ref (b 0), .int (nI (S)), .int (nI (a))]) (xR (some (.int (nI (nx (wy g) S a))))) 0 0 (xNo) := by
  refine Met.ofW (cc := cX5_nextOf) (maxL := 4) (ret := (some .int)) (by decide) rfl ?_
  intro p e s m args below meth c s₁ B hml hv
  obtain ⟨rfl, hH, hE⟩ := hv
  subst hH
  have hx := B.exec
  have hb := B.bytes
  have hr := B.returns
  have hts := hE.1.all ([.ref (b 0), .int (nI (S)), .int (nI (a))] : List Value).toArray
  have hown : s.vm.findClass RX5 = some m.cls := findClass_of_methodNamed B.named
  have hlocks := B.notSynchronized
  have hK := hE.2.1
  have hS : va_S A s.heap s.heap [] := va_S.rf
  have hl := lv_entry ([.ref (b 0), .int (nI (S)), .int (nI (a))]) (n := 4) (Nat.le_of_ble_eq_true rfl)
  rw [lg_entry_eq]
  generalize (lg_sl ([.ref (b 0), .int (nI (S)), .int (nI (a))]) ++ List.replicate (4 - (lg_sl ([.ref (b 0), .int (nI (S)), .int (nI (a))])).length) Slot.unset).toArray = ls at hl ⊢
  have hl : lv_has ls 4 [(0, .ref (b 0)), (1, .int (nI (S))), (2, .int (nI (a)))] := hl
  have hnx := nx_spec (wy g) a hSt h0
  have hnx8 := hnx.1
  refine lv_iconst (v := nI 0) hx hb dX5_nextOf_0 (by decide) ?_
  refine lv_istore_n (lv' := [(3, .int (nI 0)), (0, .ref (b 0)), (1, .int (nI (S))), (2, .int (nI (a)))]) hx hb dX5_nextOf_1 rfl hl (by decide) rfl (fun ls hl => ?_)
  have LOOP2 : ∀ (n2 : Nat) (m0 : Nat) (ls : Array Slot), (m0 ≤ nx (wy g) S a) → (nx (wy g) S a - m0) < n2 → lv_has ls 4 [(3, .int (nI (m0))), (0, .ref (b 0)), (1, .int (nI (S))), (2, .int (nI (a)))] → W p l e (headSpec w_X5_nextOf ({ frames := 1, cells := 0, slots := 0, locals := 22 } : Room)).room s m ([.ref (b 0), .int (nI (S)), .int (nI (a))] : List Value).toArray below meth c s.heap [] 0 0 (MQ below (xR (some (.int (nI (nx (wy g) S a))))) ([.ref (b 0), .int (nI (S)), .int (nI (a))] : List Value).toArray s 0 0 (xNo)) (F0 m 2 ls []) := by
    intro n2
    induction n2 with
    | zero => intro m0 ls hm hmeas hl; exact absurd hmeas (Nat.not_lt_zero _)
    | succ n2 ih2 =>
      intro m0 ls hm hmeas hl
      refine lv_iload_n hx hb dX5_nextOf_2 rfl (lv_at hl 2 rfl) ?_
      refine lv_iload_n hx hb dX5_nextOf_3 rfl (lv_at hl 0 rfl) ?_
      refine xcRi (va_runS (As := [.int (nI (S)), .int (nI (m0))]) (rest := []) ⟨hx, hb, hml, hown, hts⟩ (c_X5_has l D cA e0 A s.heap S m0 hSt (by omega)) ⟨(callB_of 2 hts gi_X5_has rfl rfl rfl (hts _ q_ini_X5) (hts _ q_ml_X5_110) hd_X5_has ⟨Nat.le_of_ble_eq_true rfl, Nat.le_of_ble_eq_true rfl⟩), hts _ q_st_X5_has⟩ (xpS hE hS) rfl rfl hl.1 rfl (lv_room (Nat.le_of_ble_eq_true rfl)) dX5_nextOf_4 ⟨Nat.le_of_ble_eq_true rfl, Nat.le_of_ble_eq_true rfl⟩) ?_
      refine lv_if_eq (tgt := 38) hx hb dX5_nextOf_7 (by decide) (fun c7 => ?_) (fun c7 => ?_)
      · have hbit : ¬ S.testBit m0 = true := fun z => by rw [if_pos z] at c7; exact absurd c7 (by decide)
        have hne : m0 ≠ nx (wy g) S a := fun z => hbit (by rw [z]; exact hnx.2.1)
        have hlt : m0 < nx (wy g) S a := by omega
        refine lv_iinc (v := nI (m0 + 1)) (lv' := [(3, .int (nI (m0 + 1))), (0, .ref (b 0)), (1, .int (nI (S))), (2, .int (nI (a)))]) hx hb dX5_nextOf_38 hl (k := 0) rfl (nI_add m0 1) (by decide) rfl (fun ls hl => ?_)
        refine lv_goto (tgt := 2) hx hb dX5_nextOf_41 (by decide) ?_
        exact ih2 (m0 + 1) _ (by omega) (by omega) (lv_sub hl [0, 1, 2, 3] rfl)
      · have hbit : S.testBit m0 = true := by
          cases hq : S.testBit m0 with
          | true => rfl
          | false => rw [hq] at c7; exact absurd rfl c7
        have hle := bit_le hbit
        have hp2 := Nat.two_pow_pos m0
        refine lv_aload_n hx hb dX5_nextOf_10 rfl (lv_at hl 1 rfl) ?_
        refine lv_iload_n hx hb dX5_nextOf_11 rfl (lv_at hl 3 rfl) ?_
        refine lv_iload_n hx hb dX5_nextOf_12 rfl (lv_at hl 0 rfl) ?_
        refine xcRi (va_runV (As := [.int (nI (a)), .int (nI (m0))]) (rest := []) ⟨hx, hb, hml, hown, hts⟩ (c_X5_way l D cA e0 A s.heap b g tt n np hX a m0 (by omega) (by omega)) ⟨(callB_of 2 hts gi_X5_way rfl rfl rfl (hts _ q_ini_X5) (hts _ q_ml_X5_70) hd_X5_way ⟨Nat.le_of_ble_eq_true rfl, Nat.le_of_ble_eq_true rfl⟩), hts _ q_im_X5_way, hts _ q_sel_X5_X5_way⟩ (xpV hE hS (hX.main) rfl) rfl rfl hl.1 rfl (lv_room (Nat.le_of_ble_eq_true rfl)) dX5_nextOf_13 ⟨Nat.le_of_ble_eq_true rfl, Nat.le_of_ble_eq_true rfl⟩) ?_
        refine lv_aload_n hx hb dX5_nextOf_16 rfl (lv_at hl 1 rfl) ?_
        refine lv_iload_n hx hb dX5_nextOf_17 rfl (lv_at hl 2 rfl) ?_
        refine lv_iconst (v := nI 1) hx hb dX5_nextOf_18 (by decide) ?_
        refine lv_iload_n hx hb dX5_nextOf_19 rfl (lv_at hl 0 rfl) ?_
        refine lv_ishl hx hb dX5_nextOf_20 ?_
        refine lv_iconst (v := (-1)) hx hb dX5_nextOf_21 (by decide) ?_
        refine lv_ixor hx hb dX5_nextOf_22 ?_
        refine lv_iand hx hb dX5_nextOf_23 ?_
        refine xtop (show ((nI (S)) &&& (((nI 1) <<< (nI (m0) &&& 31)) ^^^ ((-1)))) = nI (S - 2 ^ m0) from p_wo S hSt m0 (by omega) hbit) ?_
        refine lv_iload_n hx hb dX5_nextOf_24 rfl (lv_at hl 0 rfl) ?_
        refine xcRi (va_runV (As := [.int (nI (S - 2 ^ m0)), .int (nI (m0))]) (rest := [.int (wy g a m0)]) ⟨hx, hb, hml, hown, hts⟩ (c_X5_restOf l D cA e0 A s.heap b g tt n np hX (S - 2 ^ m0) m0 (by omega) (by omega)) ⟨(callB_of 2 hts gi_X5_restOf rfl rfl rfl (hts _ q_ini_X5) (hts _ q_ml_X5_113) hd_X5_restOf ⟨Nat.le_of_ble_eq_true rfl, Nat.le_of_ble_eq_true rfl⟩), hts _ q_im_X5_restOf, hts _ q_sel_X5_X5_restOf⟩ (xpV hE hS (hX.main) rfl) rfl rfl hl.1 rfl (lv_room (Nat.le_of_ble_eq_true rfl)) dX5_nextOf_25 ⟨Nat.le_of_ble_eq_true rfl, Nat.le_of_ble_eq_true rfl⟩) ?_
        refine xtop (show (g 22 (9 * (S - 2 ^ m0) + m0)) = tw (wy g) (S - 2 ^ m0) m0 from hrs _ (by omega) m0 (by omega)) ?_
        refine lv_iadd hx hb dX5_nextOf_28 ?_
        refine lv_aload_n hx hb dX5_nextOf_29 rfl (lv_at hl 1 rfl) ?_
        refine lv_iload_n hx hb dX5_nextOf_30 rfl (lv_at hl 2 rfl) ?_
        refine lv_iload_n hx hb dX5_nextOf_31 rfl (lv_at hl 3 rfl) ?_
        refine xcRi (va_runV (As := [.int (nI (S)), .int (nI (a))]) (rest := [.int ((wy g a m0) + (tw (wy g) (S - 2 ^ m0) m0))]) ⟨hx, hb, hml, hown, hts⟩ (c_X5_restOf l D cA e0 A s.heap b g tt n np hX S a hSt ha) ⟨(callB_of 2 hts gi_X5_restOf rfl rfl rfl (hts _ q_ini_X5) (hts _ q_ml_X5_113) hd_X5_restOf ⟨Nat.le_of_ble_eq_true rfl, Nat.le_of_ble_eq_true rfl⟩), hts _ q_im_X5_restOf, hts _ q_sel_X5_X5_restOf⟩ (xpV hE hS (hX.main) rfl) rfl rfl hl.1 rfl (lv_room (Nat.le_of_ble_eq_true rfl)) dX5_nextOf_32 ⟨Nat.le_of_ble_eq_true rfl, Nat.le_of_ble_eq_true rfl⟩) ?_
        refine xtop (show (g 22 (9 * S + a)) = tw (wy g) S a from hrs S (Nat.le_refl _) a ha) ?_
        refine lv_icmp_eq (tgt := 44) hx hb dX5_nextOf_35 (by decide) (fun c35 => ?_) (fun c35 => ?_)
        · have hmx : m0 = nx (wy g) S a := by
            rcases Nat.lt_or_ge m0 (nx (wy g) S a) with q | q
            · exact absurd c35 (hnx.2.2.2 m0 q hbit)
            · omega
          refine lv_iload_n hx hb dX5_nextOf_44 rfl (lv_at hl 0 rfl) ?_
          have hres : nI (m0) = nI (nx (wy g) S a) := by rw [hmx]
          exact W.iret (v := (nI (m0))) hx hb hr (fun t ht _ => ⟨congrArg (fun z : Int32 => Outcome.returned (some (Value.int z))) hres, ht⟩) (fun q hq => absurd hq List.not_mem_nil) dX5_nextOf_45
        · have hne : m0 ≠ nx (wy g) S a := fun z => c35 (by rw [z]; exact hnx.2.2.1)
          have hlt : m0 < nx (wy g) S a := by omega
          refine lv_iinc (v := nI (m0 + 1)) (lv' := [(3, .int (nI (m0 + 1))), (0, .ref (b 0)), (1, .int (nI (S))), (2, .int (nI (a)))]) hx hb dX5_nextOf_38 hl (k := 0) rfl (nI_add m0 1) (by decide) rfl (fun ls hl => ?_)
          refine lv_goto (tgt := 2) hx hb dX5_nextOf_41 (by decide) ?_
          exact ih2 (m0 + 1) _ (by omega) (by omega) (lv_sub hl [0, 1, 2, 3] rfl)
  exact LOOP2 _ 0 _ (Nat.zero_le _) (Nat.lt_succ_self _) (lv_sub hl [0, 1, 2, 3] rfl)
