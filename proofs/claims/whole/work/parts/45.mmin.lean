/-! The model: minutes of a round (by p45.py) -/
theorem sum_b (a : Int32) (f : Nat → Int32) : ∀ k, sumFrom a f k = a + sumFrom (nI 0) f k
  | 0 => (Int32.add_zero a).symm
  | k + 1 => by
    show sumFrom a f k + f k = a + (sumFrom (nI 0) f k + f k)
    rw [sum_b a f k, Int32.add_assoc]
theorem sel_up {S n : Nat} (f : Nat → Int32) (hS : S < 2 ^ n) : ∀ k, n ≤ k → selF S f k = selF S f n
  | 0, h => by rw [show n = 0 by omega]
  | k + 1, h => by
    by_cases hk : n = k + 1
    · rw [hk]
    · rw [selF_no (fun z => absurd (bit_n hS z) (by omega)), sel_up f hS k (by omega)]
set_option maxHeartbeats 4000000 in
set_option maxRecDepth 100000 in
/-- model.minutesOf(S) -/
theorem c_X5_minutesOf (l : Launch) (D : va_G) (cA : Nat → ClassId) (e0 : Nat) (A : Nat → Prop) (H0 : Heap) (b : Nat → Nat) (g : Nat → Nat → Int32) (tt : Nat → Int64) (n np : Nat) (hX : yW D cA b g tt n np H0) (hn8 : n ≤ 8) (S : Nat) (hS2 : S < 2 ^ n) (hrs : rsOK g S) : Met l yX5_minutesOf w_X5_minutesOf ({ frames := 1, cells := 0, slots := 0, locals := 23 } : Room) (xPc D cA e0 A H0 [.ref (b 0), .int (nI (S))]) (xR (some (.int (rtF g S)))) 0 0 (xNo) := by
  refine Met.ofW (cc := cX5_minutesOf) (maxL := 4) (ret := (some .int)) (by decide) rfl ?_
  intro p e s m args below meth c s₁ B hml hv
  obtain ⟨rfl, hH, hE⟩ := hv
  subst hH
  have hx := B.exec
  have hb := B.bytes
  have hr := B.returns
  have hts := hE.1.all ([.ref (b 0), .int (nI (S))] : List Value).toArray
  have hown : s.vm.findClass RX5 = some m.cls := findClass_of_methodNamed B.named
  have hlocks := B.notSynchronized
  have hK := hE.2.1
  have hS : va_S A s.heap s.heap [] := va_S.rf
  have hl := lv_entry ([.ref (b 0), .int (nI (S))]) (n := 4) (Nat.le_of_ble_eq_true rfl)
  rw [lg_entry_eq]
  generalize (lg_sl ([.ref (b 0), .int (nI (S))]) ++ List.replicate (4 - (lg_sl ([.ref (b 0), .int (nI (S))])).length) Slot.unset).toArray = ls at hl ⊢
  have hl : lv_has ls 4 [(0, .ref (b 0)), (1, .int (nI (S)))] := hl
  have h256 := pow256 hn8
  have hSt : S < 256 := by omega
  refine lv_aload_n hx hb dX5_minutesOf_0 rfl (lv_at hl 0 rfl) ?_
  refine lv_iload_n hx hb dX5_minutesOf_1 rfl (lv_at hl 1 rfl) ?_
  refine lv_bipush (v := nI 8) hx hb dX5_minutesOf_2 (by decide) ?_
  refine xcRi (va_runV (As := [.int (nI (S)), .int (nI 8)]) (rest := []) ⟨hx, hb, hml, hown, hts⟩ (c_X5_restOf l D cA e0 A s.heap b g tt n np hX S 8 hSt (by omega)) ⟨(callB_of 2 hts gi_X5_restOf rfl rfl rfl (hts _ q_ini_X5) (hts _ q_ml_X5_113) hd_X5_restOf ⟨Nat.le_of_ble_eq_true rfl, Nat.le_of_ble_eq_true rfl⟩), hts _ q_im_X5_restOf, hts _ q_sel_X5_X5_restOf⟩ (xpV hE hS (hX.main) rfl) rfl rfl hl.1 rfl (lv_room (Nat.le_of_ble_eq_true rfl)) dX5_minutesOf_4 ⟨Nat.le_of_ble_eq_true rfl, Nat.le_of_ble_eq_true rfl⟩) ?_
  refine xtop (show (g 22 (9 * S + 8)) = tw (wy g) S 8 from hrs 8 (by omega)) ?_
  refine lv_istore_n (lv' := [(2, .int (tw (wy g) S 8)), (0, .ref (b 0)), (1, .int (nI (S)))]) hx hb dX5_minutesOf_7 rfl hl (by decide) rfl (fun ls hl => ?_)
  refine lv_iconst (v := nI 0) hx hb dX5_minutesOf_8 (by decide) ?_
  refine lv_istore_n (lv' := [(3, .int (nI 0)), (2, .int (tw (wy g) S 8)), (0, .ref (b 0)), (1, .int (nI (S)))]) hx hb dX5_minutesOf_9 rfl hl (by decide) rfl (fun ls hl => ?_)
  have LOOP10 : ∀ (n10 : Nat) (m0 : Nat) (acc : Int32) (ls : Array Slot), (m0 ≤ n) → (acc = sumFrom (tw (wy g) S 8) (fun m => if S.testBit m then vtF g m else nI 0) m0) → (n - m0) < n10 → lv_has ls 4 [(3, .int (nI (m0))), (2, .int (acc)), (0, .ref (b 0)), (1, .int (nI (S)))] → W p l e (headSpec w_X5_minutesOf ({ frames := 1, cells := 0, slots := 0, locals := 23 } : Room)).room s m ([.ref (b 0), .int (nI (S))] : List Value).toArray below meth c s.heap [] 0 0 (MQ below (xR (some (.int (rtF g S)))) ([.ref (b 0), .int (nI (S))] : List Value).toArray s 0 0 (xNo)) (F0 m 10 ls []) := by
    intro n10
    induction n10 with
    | zero => intro m0 acc ls hm hacc hmeas hl; exact absurd hmeas (Nat.not_lt_zero _)
    | succ n10 ih10 =>
      intro m0 acc ls hm hacc hmeas hl
      refine lv_iload_n hx hb dX5_minutesOf_10 rfl (lv_at hl 0 rfl) ?_
      refine lv_aload_n hx hb dX5_minutesOf_11 rfl (lv_at hl 2 rfl) ?_
      refine va_get (D := D) (ci := 6) (v := .int (nI (n))) (C := RX5) (T := TX5) (N := 17) hx hb hts qi_X5 hown hK (xP1 (hX.main)) 0 rfl rfl 2 (by decide) (hts _ q_fl_X5_54) (fun _ h9 => h9) rfl dX5_minutesOf_12 ?_
      refine lv_icmp_ge (tgt := 50) hx hb dX5_minutesOf_15 (by decide) (fun c15 => ?_) (fun c15 => ?_)
      · have c15 : n ≤ m0 := (nI_leI (a := n) (b := m0) (by omega) (by omega)).mp c15
        have hmn : m0 = n := by omega
        refine lv_iload_n hx hb dX5_minutesOf_50 rfl (lv_at hl 1 rfl) ?_
        have hres : acc = rtF g S := by rw [hacc, hmn, sum_b]; unfold rtF; rw [sel_up (vtF g) hS2 8 hn8]; rfl
        exact W.iret (v := acc) hx hb hr (fun t ht _ => ⟨congrArg (fun z : Int32 => Outcome.returned (some (Value.int z))) hres, ht⟩) (fun q hq => absurd hq List.not_mem_nil) dX5_minutesOf_51
      · have c15 : ¬ (n ≤ m0) := fun z => c15 ((nI_leI (a := n) (b := m0) (by omega) (by omega)).mpr z)
        refine lv_iload_n hx hb dX5_minutesOf_18 rfl (lv_at hl 1 rfl) ?_
        refine lv_iload_n hx hb dX5_minutesOf_19 rfl (lv_at hl 3 rfl) ?_
        refine lv_iload_n hx hb dX5_minutesOf_20 rfl (lv_at hl 0 rfl) ?_
        refine xcRi (va_runS (As := [.int (nI (S)), .int (nI (m0))]) (rest := [.int (acc)]) ⟨hx, hb, hml, hown, hts⟩ (c_X5_has l D cA e0 A s.heap S m0 hSt (by omega)) ⟨(callB_of 2 hts gi_X5_has rfl rfl rfl (hts _ q_ini_X5) (hts _ q_ml_X5_110) hd_X5_has ⟨Nat.le_of_ble_eq_true rfl, Nat.le_of_ble_eq_true rfl⟩), hts _ q_st_X5_has⟩ (xpS hE hS) rfl rfl hl.1 rfl (lv_room (Nat.le_of_ble_eq_true rfl)) dX5_minutesOf_21 ⟨Nat.le_of_ble_eq_true rfl, Nat.le_of_ble_eq_true rfl⟩) ?_
        refine lv_if_eq (tgt := 41) hx hb dX5_minutesOf_24 (by decide) (fun c24 => ?_) (fun c24 => ?_)
        · have hbit : ¬ S.testBit m0 = true := fun z => by rw [if_pos z] at c24; exact absurd c24 (by decide)
          refine lv_iconst (v := nI 0) hx hb dX5_minutesOf_41 (by decide) ?_
          refine lv_iadd hx hb dX5_minutesOf_42 ?_
          refine lv_istore_n (lv' := [(2, .int (acc + (nI 0))), (3, .int (nI (m0))), (0, .ref (b 0)), (1, .int (nI (S)))]) hx hb dX5_minutesOf_43 rfl hl (by decide) rfl (fun ls hl => ?_)
          refine lv_iinc (v := nI (m0 + 1)) (lv' := [(3, .int (nI (m0 + 1))), (2, .int (acc + (nI 0))), (0, .ref (b 0)), (1, .int (nI (S)))]) hx hb dX5_minutesOf_44 hl (k := 1) rfl (nI_add m0 1) (by decide) rfl (fun ls hl => ?_)
          refine lv_goto (tgt := 10) hx hb dX5_minutesOf_47 (by decide) ?_
          exact ih10 (m0 + 1) (acc + (nI 0)) _ (by omega) (by rw [hacc]; show _ = sumFrom _ _ m0 + (if S.testBit m0 then vtF g m0 else nI 0); rw [if_neg hbit]) (by omega) (lv_sub hl [0, 1, 2, 3] rfl)
        · have hbit : S.testBit m0 = true := by
            cases hq : S.testBit m0 with
            | true => rfl
            | false => rw [hq] at c24; exact absurd rfl c24
          refine lv_iconst (v := nI 3) hx hb dX5_minutesOf_27 (by decide) ?_
          refine lv_aload_n hx hb dX5_minutesOf_28 rfl (lv_at hl 2 rfl) ?_
          refine lv_iload_n hx hb dX5_minutesOf_29 rfl (lv_at hl 0 rfl) ?_
          refine xcRi (va_runV (As := [.int (nI (m0))]) (rest := [.int (nI 3), .int (acc)]) ⟨hx, hb, hml, hown, hts⟩ (c_X5_lacks l D cA e0 A s.heap b g tt n np hX hn8 m0 (by omega)) ⟨(callB_of 1 hts gi_X5_lacks rfl rfl rfl (hts _ q_ini_X5) (hts _ q_ml_X5_92) hd_X5_lacks ⟨Nat.le_of_ble_eq_true rfl, Nat.le_of_ble_eq_true rfl⟩), hts _ q_im_X5_lacks, hts _ q_sel_X5_X5_lacks⟩ (xpV hE hS (hX.main) rfl) rfl rfl hl.1 rfl (lv_room (Nat.le_of_ble_eq_true rfl)) dX5_minutesOf_30 ⟨Nat.le_of_ble_eq_true rfl, Nat.le_of_ble_eq_true rfl⟩) ?_
          refine lv_iconst (v := nI 4) hx hb dX5_minutesOf_33 (by decide) ?_
          refine lv_iadd hx hb dX5_minutesOf_34 ?_
          refine lv_iconst (v := nI 5) hx hb dX5_minutesOf_35 (by decide) ?_
          refine lv_idiv hx hb dX5_minutesOf_36 (by decide) ?_
          refine lv_iadd hx hb dX5_minutesOf_37 ?_
          refine xtop (show ((nI 3) + (((lackF g m0) + (nI 4)) / (nI 5))) = vtF g m0 from rfl) ?_
          refine lv_goto (tgt := 42) hx hb dX5_minutesOf_38 (by decide) ?_
          refine lv_iadd hx hb dX5_minutesOf_42 ?_
          refine lv_istore_n (lv' := [(2, .int (acc + (vtF g m0))), (3, .int (nI (m0))), (0, .ref (b 0)), (1, .int (nI (S)))]) hx hb dX5_minutesOf_43 rfl hl (by decide) rfl (fun ls hl => ?_)
          refine lv_iinc (v := nI (m0 + 1)) (lv' := [(3, .int (nI (m0 + 1))), (2, .int (acc + (vtF g m0))), (0, .ref (b 0)), (1, .int (nI (S)))]) hx hb dX5_minutesOf_44 hl (k := 1) rfl (nI_add m0 1) (by decide) rfl (fun ls hl => ?_)
          refine lv_goto (tgt := 10) hx hb dX5_minutesOf_47 (by decide) ?_
          exact ih10 (m0 + 1) (acc + (vtF g m0)) _ (by omega) (by rw [hacc]; show _ = sumFrom _ _ m0 + (if S.testBit m0 then vtF g m0 else nI 0); rw [if_pos hbit]) (by omega) (lv_sub hl [0, 1, 2, 3] rfl)
  exact LOOP10 _ 0 (tw (wy g) S 8) _ (by omega) rfl (Nat.lt_succ_self _) (lv_sub hl [0, 1, 2, 3] rfl)
