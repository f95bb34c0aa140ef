/-! The model: how far it is filled (by p49.py) -/
set_option maxHeartbeats 4000000 in
set_option maxRecDepth 100000 in
/-- model.filled -/
theorem c_X5_filled (l : Launch) (D : va_G) (cA : Nat → ClassId) (e0 : Nat) (A : Nat → Prop) (H0 : Heap) (b : Nat → Nat) (g : Nat → Nat → Int32) (tt : Nat → Int64) (n np : Nat) (hX : yW D cA b g tt n np H0) (hA : yA A b n np) : Met l yX5_filled w_X5_filled ({ frames := 0, cells := 0, slots := 0, locals := 0 } : Room) (xPc D cA e0 A H0 [.ref (b 0)]) (xQd (fun r h => r = filF g n ∧ yW D cA b (thG g 0) tt n np h) A) 0 0 (A) := by
  refine Met.ofW (cc := cX5_filled) (maxL := 4) (ret := (some .double)) (by decide) rfl ?_
  intro p e s m args below meth c s₁ B hml hv
  obtain ⟨rfl, hH, hE⟩ := hv
  subst hH
  have hx := B.exec
  have hb := B.bytes
  have hr := B.returns
  have hts := hE.1.all ([.ref (b 0)] : List Value).toArray
  have hown : s.vm.findClass RX5 = some m.cls := findClass_of_methodNamed B.named
  have hlocks := B.notSynchronized
  have hK := hE.2.1
  have hS : va_S A s.heap s.heap [] := va_S.rf
  have hl := lv_entry ([.ref (b 0)]) (n := 4) (Nat.le_of_ble_eq_true rfl)
  rw [lg_entry_eq]
  generalize (lg_sl ([.ref (b 0)]) ++ List.replicate (4 - (lg_sl ([.ref (b 0)])).length) Slot.unset).toArray = ls at hl ⊢
  have hl : lv_has ls 4 [(0, .ref (b 0))] := hl
  have hn8 := hA.2.2.1
  refine lv_aload_n hx hb dX5_filled_0 rfl (lv_at hl 0 rfl) ?_
  refine lv_iconst (v := nI 0) hx hb dX5_filled_1 (by decide) ?_
  refine xput (D := D) (ci := 6) (v := .int (nI 0)) (C := RX5) (T := TX5) (N := 17) hx hb hts qi_X5 tyX5 tyX5_ok nmX5 hown hK hS (hX.main) (hA.a (show 0 < 14 by omega)) rfl 0 (by decide) (hts _ q_fl_X5_50) (fun _ h9 => h9) rfl (tyX5_ok 0 (by decide)) rfl rfl (Nat.le_of_ble_eq_true rfl) dX5_filled_2 (fun H1 locs hU hS => ?_)
  obtain ⟨g1, hg1⟩ : ∃ z, z = thG g 0 := ⟨_, rfl⟩
  have hX1 : yW D cA b g1 tt n np H1 := by rw [hg1]; exact hX.pthr hA hU
  refine lv_iconst (v := nI 0) hx hb dX5_filled_5 (by decide) ?_
  refine lv_istore_n (lv' := [(1, .int (nI 0)), (0, .ref (b 0))]) hx hb dX5_filled_6 rfl hl (by decide) rfl (fun ls hl => ?_)
  refine lv_iconst (v := nI 0) hx hb dX5_filled_7 (by decide) ?_
  refine lv_istore_n (lv' := [(2, .int (nI 0)), (1, .int (nI 0)), (0, .ref (b 0))]) hx hb dX5_filled_8 rfl hl (by decide) rfl (fun ls hl => ?_)
  refine lv_iconst (v := nI 0) hx hb dX5_filled_9 (by decide) ?_
  refine lv_istore_n (lv' := [(3, .int (nI 0)), (2, .int (nI 0)), (1, .int (nI 0)), (0, .ref (b 0))]) hx hb dX5_filled_10 rfl hl (by decide) rfl (fun ls hl => ?_)
  have LOOP11 : ∀ (n11 : Nat) (k : Nat) (a : Int32) (z : Int32) (ls : Array Slot), (k ≤ 6 * n) → (a = sumFrom (nI 0) (g 5) k) → (z = sumFrom (nI 0) (g 4) k) → (6 * n - k) < n11 → lv_has ls 4 [(3, .int (nI (k))), (2, .int (z)), (1, .int (a)), (0, .ref (b 0))] → W p l e (headSpec w_X5_filled ({ frames := 0, cells := 0, slots := 0, locals := 0 } : Room)).room s m ([.ref (b 0)] : List Value).toArray below meth c H1 locs 0 0 (MQ below (xQd (fun r h => r = filF g n ∧ yW D cA b (thG g 0) tt n np h) A) ([.ref (b 0)] : List Value).toArray s 0 0 (A)) (F0 m 11 ls []) := by
    intro n11
    induction n11 with
    | zero => intro k a z ls hk ha hz hmeas hl; exact absurd hmeas (Nat.not_lt_zero _)
    | succ n11 ih11 =>
      intro k a z ls hk ha hz hmeas hl
      refine lv_iload_n hx hb dX5_filled_11 rfl (lv_at hl 0 rfl) ?_
      refine lv_bipush (v := nI 6) hx hb dX5_filled_12 (by decide) ?_
      refine lv_aload_n hx hb dX5_filled_14 rfl (lv_at hl 3 rfl) ?_
      refine va_get (D := D) (ci := 6) (v := .int (nI (n))) (C := RX5) (T := TX5) (N := 17) hx hb hts qi_X5 hown hK (xP1 (hX1.main)) 0 rfl rfl 2 (by decide) (hts _ q_fl_X5_54) (fun _ h9 => h9) rfl dX5_filled_15 ?_
      refine lv_imul hx hb dX5_filled_18 ?_
      refine xtop (show ((nI 6) * (nI (n))) = nI (6 * n) from pk_mul 6 n) ?_
      refine lv_icmp_ge (tgt := 46) hx hb dX5_filled_19 (by decide) (fun c19 => ?_) (fun c19 => ?_)
      · have c19 : (6 * n) ≤ k := (nI_leI (a := 6 * n) (b := k) (by omega) (by omega)).mp c19
        have hkn : k = 6 * n := by omega
        refine lv_iload_n hx hb dX5_filled_46 rfl (lv_at hl 1 rfl) ?_
        refine lv_if_ne (tgt := 54) hx hb dX5_filled_47 (by decide) (fun c47 => ?_) (fun c47 => ?_)
        · refine lv_iload_n hx hb dX5_filled_54 rfl (lv_at hl 2 rfl) ?_
          refine lv_i2d hx hb dX5_filled_55 ?_
          refine lv_iload_n hx hb dX5_filled_56 rfl (lv_at hl 1 rfl) ?_
          refine lv_i2d hx hb dX5_filled_57 ?_
          refine lv_ddiv hx hb dX5_filled_58 (nn_div _ _ c47) ?_
          have hpost : (fun r h => r = filF g n ∧ yW D cA b (thG g 0) tt n np h) (FP.ddiv (FP.i2d a) (FP.i2d z)) H1 := by
            rw [← hg1]
            refine ⟨?_, hX1⟩
            unfold filF
            rw [← hkn, ← hz, if_neg c47, ← ha]
          refine W.widen (k := 0) (n := 0) (by omega) (by omega) ?_
          exact W.dret (v := (FP.ddiv (FP.i2d a) (FP.i2d z))) hx hb hr (fun t ht _ => ⟨⟨(FP.ddiv (FP.i2d a) (FP.i2d z)), H1, rfl, hpost, ht⟩, hS.F ht⟩) hS.2.2 dX5_filled_59
        · refine lv_dconst1 hx hb dX5_filled_50 ?_
          refine lv_goto (tgt := 59) hx hb dX5_filled_51 (by decide) ?_
          have hpost : (fun r h => r = filF g n ∧ yW D cA b (thG g 0) tt n np h) (FP.dconst1) H1 := by
            rw [← hg1]
            refine ⟨?_, hX1⟩
            unfold filF
            rw [← hkn, ← hz, if_pos c47]
          refine W.widen (k := 0) (n := 0) (by omega) (by omega) ?_
          exact W.dret (v := FP.dconst1) hx hb hr (fun t ht _ => ⟨⟨FP.dconst1, H1, rfl, hpost, ht⟩, hS.F ht⟩) hS.2.2 dX5_filled_59
      · have c19 : ¬ ((6 * n) ≤ k) := fun z => c19 ((nI_leI (a := 6 * n) (b := k) (by omega) (by omega)).mpr z)
        refine lv_iload_n hx hb dX5_filled_22 rfl (lv_at hl 2 rfl) ?_
        refine lv_aload_n hx hb dX5_filled_23 rfl (lv_at hl 3 rfl) ?_
        refine va_get (D := D) (ci := 6) (v := .ref (b 6)) (C := RX5) (T := TX5) (N := 17) hx hb hts qi_X5 hown hK (xP1 (hX1.main)) 0 rfl rfl 8 (by decide) (hts _ q_fl_X5_25) (fun _ h9 => h9) rfl dX5_filled_24 ?_
        refine lv_iload_n hx hb dX5_filled_27 rfl (lv_at hl 0 rfl) ?_
        refine va_iald hx hb hK (xP1 (hX1.t5)) 0 0 rfl rfl (i := nI (k)) (vp_in_nI (n := k) (by omega) (by omega)) dX5_filled_28 ?_
        refine xtop (show ((fun z => g1 5 (z)) (nI (k)).toNatClampNeg) = g1 5 (k) from by rw [nI_clamp (n := k) (by omega)]) ?_
        refine lv_iadd hx hb dX5_filled_29 ?_
        refine lv_istore_n (lv' := [(1, .int (a + (g1 5 (k)))), (3, .int (nI (k))), (2, .int (z)), (0, .ref (b 0))]) hx hb dX5_filled_30 rfl hl (by decide) rfl (fun ls hl => ?_)
        refine lv_iload_n hx hb dX5_filled_31 rfl (lv_at hl 2 rfl) ?_
        refine lv_aload_n hx hb dX5_filled_32 rfl (lv_at hl 3 rfl) ?_
        refine va_get (D := D) (ci := 6) (v := .ref (b 5)) (C := RX5) (T := TX5) (N := 17) hx hb hts qi_X5 hown hK (xP1 (hX1.main)) 0 rfl rfl 7 (by decide) (hts _ q_fl_X5_22) (fun _ h9 => h9) rfl dX5_filled_33 ?_
        refine lv_iload_n hx hb dX5_filled_36 rfl (lv_at hl 1 rfl) ?_
        refine va_iald hx hb hK (xP1 (hX1.t4)) 0 0 rfl rfl (i := nI (k)) (vp_in_nI (n := k) (by omega) (by omega)) dX5_filled_37 ?_
        refine xtop (show ((fun z => g1 4 (z)) (nI (k)).toNatClampNeg) = g1 4 (k) from by rw [nI_clamp (n := k) (by omega)]) ?_
        refine lv_iadd hx hb dX5_filled_38 ?_
        refine lv_istore_n (lv' := [(2, .int (z + (g1 4 (k)))), (1, .int (a + (g1 5 (k)))), (3, .int (nI (k))), (0, .ref (b 0))]) hx hb dX5_filled_39 rfl hl (by decide) rfl (fun ls hl => ?_)
        refine lv_iinc (v := nI (k + 1)) (lv' := [(3, .int (nI (k + 1))), (2, .int (z + (g1 4 (k)))), (1, .int (a + (g1 5 (k)))), (0, .ref (b 0))]) hx hb dX5_filled_40 hl (k := 2) rfl (nI_add k 1) (by decide) rfl (fun ls hl => ?_)
        refine lv_goto (tgt := 11) hx hb dX5_filled_43 (by decide) ?_
        exact ih11 (k + 1) (a + g1 5 k) (z + g1 4 k) _ (by omega) (by rw [ha, hg1, thG_t g 0 (by omega)]; rfl) (by rw [hz, hg1, thG_t g 0 (by omega)]; rfl) (by omega) (lv_sub hl [0, 1, 2, 3] rfl)
  exact LOOP11 _ 0 (nI 0) (nI 0) _ (by omega) rfl rfl (Nat.lt_succ_self _) (lv_sub hl [0, 1, 2, 3] rfl)
