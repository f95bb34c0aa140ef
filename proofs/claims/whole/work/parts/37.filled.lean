/-! The class: how far it is filled (by p37.py) -/
def filF (g : Nat → Nat → Int32) (n : Nat) : UInt64 := if sumFrom (nI 0) (g 4) (6 * n) = 0 then FP.dconst1 else FP.ddiv (FP.i2d (sumFrom (nI 0) (g 5) (6 * n))) (FP.i2d (sumFrom (nI 0) (g 4) (6 * n)))
set_option maxHeartbeats 4000000 in
set_option maxRecDepth 100000 in
/-- filled() -/
theorem c_X4_filled (l : Launch) (D : va_G) (cA : Nat → ClassId) (e0 : Nat) (A : Nat → Prop) (H0 : Heap) (ad : Nat → Nat → Nat) (g : Nat → Nat → Int32) (tt : Nat → Int64) (N : Nat → Nat) (hX : xW D cA ad g tt N H0) (hA : xA A e0 ad N) : Met l yX4_filled w_X4_filled ({ frames := 3, cells := 0, slots := 0, locals := 64 } : Room) (xPc D cA e0 A H0 [.ref (ad 0 0)]) (xR (some (.double (filF g (N 0))))) 0 0 (xNo) := by
  refine Met.ofW (cc := cX4_filled) (maxL := 6) (ret := (some .double)) (by decide) rfl ?_
  intro p e s m args below meth c s₁ B hml hv
  obtain ⟨rfl, hH, hE⟩ := hv
  subst hH
  have hx := B.exec
  have hb := B.bytes
  have hr := B.returns
  have hts := hE.1.all ([.ref (ad 0 0)] : List Value).toArray
  have hown : s.vm.findClass RX4 = some m.cls := findClass_of_methodNamed B.named
  have hlocks := B.notSynchronized
  have hK := hE.2.1
  have hS : va_S A s.heap s.heap [] := va_S.rf
  have hl := lv_entry ([.ref (ad 0 0)]) (n := 6) (Nat.le_of_ble_eq_true rfl)
  rw [lg_entry_eq]
  generalize (lg_sl ([.ref (ad 0 0)]) ++ List.replicate (6 - (lg_sl ([.ref (ad 0 0)])).length) Slot.unset).toArray = ls at hl ⊢
  have hl : lv_has ls 6 [(0, .ref (ad 0 0))] := hl
  have hn8 := hA.n8
  refine lv_iconst (v := nI 0) hx hb dX4_filled_0 (by decide) ?_
  refine lv_istore_n (lv' := [(1, .int (nI 0)), (0, .ref (ad 0 0))]) hx hb dX4_filled_1 rfl hl (by decide) rfl (fun ls hl => ?_)
  refine lv_iconst (v := nI 0) hx hb dX4_filled_2 (by decide) ?_
  refine lv_istore_n (lv' := [(2, .int (nI 0)), (1, .int (nI 0)), (0, .ref (ad 0 0))]) hx hb dX4_filled_3 rfl hl (by decide) rfl (fun ls hl => ?_)
  refine lv_iconst (v := nI 0) hx hb dX4_filled_4 (by decide) ?_
  refine lv_istore_n (lv' := [(3, .int (nI 0)), (2, .int (nI 0)), (1, .int (nI 0)), (0, .ref (ad 0 0))]) hx hb dX4_filled_5 rfl hl (by decide) rfl (fun ls hl => ?_)
  have LOOP6 : ∀ (n6 : Nat) (i : Nat) (a : Int32) (b : Int32) (ls : Array Slot), (i ≤ N 0) → (a = sumFrom (nI 0) (g 5) (6 * i)) → (b = sumFrom (nI 0) (g 4) (6 * i)) → (N 0 - i) < n6 → lv_has ls 6 [(3, .int (nI (i))), (2, .int (b)), (1, .int (a)), (0, .ref (ad 0 0))] → W p l e (headSpec w_X4_filled ({ frames := 3, cells := 0, slots := 0, locals := 64 } : Room)).room s m ([.ref (ad 0 0)] : List Value).toArray below meth c s.heap [] 0 0 (MQ below (xR (some (.double (filF g (N 0))))) ([.ref (ad 0 0)] : List Value).toArray s 0 0 (xNo)) (F0 m 6 ls []) := by
    intro n6
    induction n6 with
    | zero => intro i a b ls hi ha hb9 hmeas hl; exact absurd hmeas (Nat.not_lt_zero _)
    | succ n6 ih6 =>
      intro i a b ls hi ha hb9 hmeas hl
      refine lv_iload_n hx hb dX4_filled_6 rfl (lv_at hl 0 rfl) ?_
      refine lv_aload_n hx hb dX4_filled_7 rfl (lv_at hl 3 rfl) ?_
      refine va_get (D := D) (ci := 5) (v := .ref (ad 0 1)) (C := RX4) (T := TX4) (N := 11) hx hb hts qi_X4 hown hK (xP1 (hX.main)) 0 rfl rfl 0 (by decide) (hts _ q_fl_X4_10) (fun _ h9 => h9) rfl dX4_filled_8 ?_
      refine xcRi (va_runV (As := []) (rest := [.int (nI (i))]) ⟨hx, hb, hml, hown, hts⟩ (c_Jx4a65c_size_8abf5 l D cA e0 A s.heap (ad 0 1) (g 18 0) (ad 0 9) (nI (N 0)) (hX.ml)) ⟨(callB_of 0 hts gi_Jx4a65c_size_8abf5 rfl rfl rfl (hts _ q_ini_Jx4a65c) (hts _ q_ml_X4_48) hd_Jx4a65c_size_8abf5 ⟨Nat.le_of_ble_eq_true rfl, Nat.le_of_ble_eq_true rfl⟩), hts _ q_im_Jx4a65c_size_8abf5, hts _ q_sel_Jx4a65c_Jx4a65c_size_8abf5⟩ (xpV hE hS (hX.ml) rfl) rfl rfl hl.1 rfl (lv_room (Nat.le_of_ble_eq_true rfl)) dX4_filled_11 ⟨Nat.le_of_ble_eq_true rfl, Nat.le_of_ble_eq_true rfl⟩) ?_
      refine lv_icmp_ge (tgt := 80) hx hb dX4_filled_14 (by decide) (fun c14 => ?_) (fun c14 => ?_)
      · have c14 : (N 0) ≤ i := (nI_leI (a := N 0) (b := i) (by omega) (by omega)).mp c14
        have hiN : i = N 0 := by omega
        refine lv_iload_n hx hb dX4_filled_80 rfl (lv_at hl 1 rfl) ?_
        refine lv_if_ne (tgt := 86) hx hb dX4_filled_81 (by decide) (fun c81 => ?_) (fun c81 => ?_)
        · refine lv_iload_n hx hb dX4_filled_86 rfl (lv_at hl 2 rfl) ?_
          refine lv_i2d hx hb dX4_filled_87 ?_
          refine lv_iload_n hx hb dX4_filled_88 rfl (lv_at hl 1 rfl) ?_
          refine lv_i2d hx hb dX4_filled_89 ?_
          refine lv_ddiv hx hb dX4_filled_90 (nn_div _ _ c81) ?_
          have hq : filF g (N 0) = FP.ddiv (FP.i2d a) (FP.i2d b) := by
            unfold filF
            rw [← hiN, ← ha, ← hb9, if_neg c81]
          rw [hq]
          exact W.dret (v := (FP.ddiv (FP.i2d a) (FP.i2d b))) hx hb hr (fun t ht _ => ⟨rfl, ht⟩) (fun q hq => absurd hq List.not_mem_nil) dX4_filled_91
        · refine lv_dconst1 hx hb dX4_filled_84 ?_
          have hq : filF g (N 0) = FP.dconst1 := by
            unfold filF
            rw [← hiN, ← hb9, if_pos c81]
          rw [hq]
          exact W.dret (v := FP.dconst1) hx hb hr (fun t ht _ => ⟨rfl, ht⟩) (fun q hq => absurd hq List.not_mem_nil) dX4_filled_85
      · have c14 : ¬ ((N 0) ≤ i) := fun z => c14 ((nI_leI (a := N 0) (b := i) (by omega) (by omega)).mpr z)
        have c14 : i < N 0 := by omega
        refine lv_aload_n hx hb dX4_filled_17 rfl (lv_at hl 3 rfl) ?_
        refine va_get (D := D) (ci := 5) (v := .ref (ad 0 1)) (C := RX4) (T := TX4) (N := 11) hx hb hts qi_X4 hown hK (xP1 (hX.main)) 0 rfl rfl 0 (by decide) (hts _ q_fl_X4_10) (fun _ h9 => h9) rfl dX4_filled_18 ?_
        refine lv_iload_n hx hb dX4_filled_21 rfl (lv_at hl 0 rfl) ?_
        refine xcRr (va_runV (As := [.int (nI (i))]) (rest := []) ⟨hx, hb, hml, hown, hts⟩ (c_Jx4a65c_get_915e3 l D cA e0 A s.heap (ad 0 1) (g 18 0) (ad 0 9) (N 0) (hX.ml) (N 2) (fun j => if j < N 0 then some (ad 1 j) else none) (hX.md (by have := hA.2.2.2.2.2.1; omega)) i (ad 1 i) c14 hA.2.2.2.2.2.1 (by have := hA.2.2.2.2.2.2.1; omega) (if_pos c14)) ⟨(callB_of 1 hts gi_Jx4a65c_get_915e3 rfl rfl rfl (hts _ q_ini_Jx4a65c) (hts _ q_ml_X4_199) hd_Jx4a65c_get_915e3 ⟨Nat.le_of_ble_eq_true rfl, Nat.le_of_ble_eq_true rfl⟩), hts _ q_im_Jx4a65c_get_915e3, hts _ q_sel_Jx4a65c_Jx4a65c_get_915e3⟩ (xpV hE hS (hX.ml) rfl) rfl rfl hl.1 rfl (lv_room (Nat.le_of_ble_eq_true rfl)) dX4_filled_22 ⟨Nat.le_of_ble_eq_true rfl, Nat.le_of_ble_eq_true rfl⟩) ?_
        refine va_castS hx hb hown (hts _ q_cl_X4_57) (hK.1 1 _ rfl).2 (va_recv hK (xP1 (hX.mach c14)) (ci := 1) (q0 := 0) rfl rfl) dX4_filled_25 ?_
        refine lv_astore (lv' := [(4, .ref (ad 1 i)), (3, .int (nI (i))), (2, .int (b)), (1, .int (a)), (0, .ref (ad 0 0))]) hx hb dX4_filled_28 hl (by decide) rfl (fun ls hl => ?_)
        refine lv_iconst (v := nI 0) hx hb dX4_filled_30 (by decide) ?_
        refine lv_istore (lv' := [(5, .int (nI 0)), (4, .ref (ad 1 i)), (3, .int (nI (i))), (2, .int (b)), (1, .int (a)), (0, .ref (ad 0 0))]) hx hb dX4_filled_31 hl (by decide) rfl (fun ls hl => ?_)
        have LOOP33 : ∀ (n33 : Nat) (j : Nat) (a2 : Int32) (b2 : Int32) (ls : Array Slot), (j ≤ 6) → (a2 = sumFrom (nI 0) (g 5) (6 * i + j)) → (b2 = sumFrom (nI 0) (g 4) (6 * i + j)) → (6 - j) < n33 → lv_has ls 6 [(5, .int (nI (j))), (4, .ref (ad 1 i)), (2, .int (b2)), (1, .int (a2)), (3, .int (nI (i))), (0, .ref (ad 0 0))] → W p l e (headSpec w_X4_filled ({ frames := 3, cells := 0, slots := 0, locals := 64 } : Room)).room s m ([.ref (ad 0 0)] : List Value).toArray below meth c s.heap [] 0 0 (MQ below (xR (some (.double (filF g (N 0))))) ([.ref (ad 0 0)] : List Value).toArray s 0 0 (xNo)) (F0 m 33 ls []) := by
          intro n33
          induction n33 with
          | zero => intro j a2 b2 ls hj ha2 hb2 hmeas hl; exact absurd hmeas (Nat.not_lt_zero _)
          | succ n33 ih33 =>
            intro j a2 b2 ls hj ha2 hb2 hmeas hl
            refine lv_iload hx hb dX4_filled_33 (lv_at hl 0 rfl) ?_
            refine lv_bipush (v := nI 6) hx hb dX4_filled_35 (by decide) ?_
            refine lv_icmp_ge (tgt := 74) hx hb dX4_filled_37 (by decide) (fun c37 => ?_) (fun c37 => ?_)
            · have c37 : 6 ≤ j := (nI_leI (a := 6) (b := j) (by omega) (by omega)).mp c37
              have hj9 : 6 * (i + 1) = 6 * i + j := by omega
              refine lv_iinc (v := nI (i + 1)) (lv' := [(3, .int (nI (i + 1))), (5, .int (nI (j))), (4, .ref (ad 1 i)), (2, .int (b2)), (1, .int (a2)), (0, .ref (ad 0 0))]) hx hb dX4_filled_74 hl (k := 4) rfl (nI_add i 1) (by decide) rfl (fun ls hl => ?_)
              refine lv_goto (tgt := 6) hx hb dX4_filled_77 (by decide) ?_
              exact ih6 (i + 1) a2 b2 _ (by omega) (by rw [ha2, hj9]) (by rw [hb2, hj9]) (by omega) (lv_sub hl [0, 3, 4, 5] rfl)
            · have c37 : ¬ (6 ≤ j) := fun z => c37 ((nI_leI (a := 6) (b := j) (by omega) (by omega)).mpr z)
              refine lv_iload_n hx hb dX4_filled_40 rfl (lv_at hl 3 rfl) ?_
              refine lv_aload hx hb dX4_filled_41 (lv_at hl 1 rfl) ?_
              refine va_get (D := D) (ci := 1) (v := .ref (ad 2 i)) (C := RX0) (T := TX0) (N := 4) hx hb hts qi_X0 hown hK (xP1 (hX.mach c14)) 0 rfl rfl 1 (by decide) (hts _ q_fl_X4_215) (fun _ h9 => h9) rfl dX4_filled_43 ?_
              refine lv_iload hx hb dX4_filled_46 (lv_at hl 0 rfl) ?_
              refine va_aldq hx hb hK (xP1 (hX.row c14)) 0 3 rfl rfl (i := nI (j)) (vp_in_nI (n := j) (by omega) (by omega)) dX4_filled_48 ?_
              refine xtopv (y := .ref (ad 3 (6 * i + j))) (by rw [nI_clamp (n := j) (by omega)] <;> rfl) ?_
              refine va_get (D := D) (ci := 4) (v := .int (g 5 (6 * i + j))) (C := RX3) (T := TX3) (N := 6) hx hb hts qi_X3 hown hK (xP1 (hX.slot (k := 6 * i + j) (by omega))) 0 rfl rfl 1 (by decide) (hts _ q_fl_X4_104) (fun _ h9 => h9) rfl dX4_filled_49 ?_
              refine lv_iadd hx hb dX4_filled_52 ?_
              refine lv_istore_n (lv' := [(1, .int (a2 + (g 5 (6 * i + j)))), (5, .int (nI (j))), (4, .ref (ad 1 i)), (2, .int (b2)), (3, .int (nI (i))), (0, .ref (ad 0 0))]) hx hb dX4_filled_53 rfl hl (by decide) rfl (fun ls hl => ?_)
              refine lv_iload_n hx hb dX4_filled_54 rfl (lv_at hl 3 rfl) ?_
              refine lv_aload hx hb dX4_filled_55 (lv_at hl 2 rfl) ?_
              refine va_get (D := D) (ci := 1) (v := .ref (ad 2 i)) (C := RX0) (T := TX0) (N := 4) hx hb hts qi_X0 hown hK (xP1 (hX.mach c14)) 0 rfl rfl 1 (by decide) (hts _ q_fl_X4_215) (fun _ h9 => h9) rfl dX4_filled_57 ?_
              refine lv_iload hx hb dX4_filled_60 (lv_at hl 1 rfl) ?_
              refine va_aldq hx hb hK (xP1 (hX.row c14)) 0 3 rfl rfl (i := nI (j)) (vp_in_nI (n := j) (by omega) (by omega)) dX4_filled_62 ?_
              refine xtopv (y := .ref (ad 3 (6 * i + j))) (by rw [nI_clamp (n := j) (by omega)] <;> rfl) ?_
              refine va_get (D := D) (ci := 4) (v := .int (g 4 (6 * i + j))) (C := RX3) (T := TX3) (N := 6) hx hb hts qi_X3 hown hK (xP1 (hX.slot (k := 6 * i + j) (by omega))) 0 rfl rfl 0 (by decide) (hts _ q_fl_X4_98) (fun _ h9 => h9) rfl dX4_filled_63 ?_
              refine lv_iadd hx hb dX4_filled_66 ?_
              refine lv_istore_n (lv' := [(2, .int (b2 + (g 4 (6 * i + j)))), (1, .int (a2 + (g 5 (6 * i + j)))), (5, .int (nI (j))), (4, .ref (ad 1 i)), (3, .int (nI (i))), (0, .ref (ad 0 0))]) hx hb dX4_filled_67 rfl hl (by decide) rfl (fun ls hl => ?_)
              refine lv_iinc (v := nI (j + 1)) (lv' := [(5, .int (nI (j + 1))), (2, .int (b2 + (g 4 (6 * i + j)))), (1, .int (a2 + (g 5 (6 * i + j)))), (4, .ref (ad 1 i)), (3, .int (nI (i))), (0, .ref (ad 0 0))]) hx hb dX4_filled_68 hl (k := 2) rfl (nI_add j 1) (by decide) rfl (fun ls hl => ?_)
              refine lv_goto (tgt := 33) hx hb dX4_filled_71 (by decide) ?_
              exact ih33 (j + 1) (a2 + g 5 (6 * i + j)) (b2 + g 4 (6 * i + j)) _ (by omega) (by rw [ha2]; rfl) (by rw [hb2]; rfl) (by omega) (lv_sub hl [0, 3, 1, 2, 4, 5] rfl)
        exact LOOP33 _ 0 a b _ (by omega) ha hb9 (Nat.lt_succ_self _) (lv_sub hl [0, 1, 3, 4, 2, 5] rfl)
  exact LOOP6 _ 0 (nI 0) (nI 0) _ (by omega) rfl rfl (Nat.lt_succ_self _) (lv_sub hl [0, 1, 2, 3] rfl)
