/-! The model: one piece sold, changes made (by p52.py) -/
set_option maxHeartbeats 4000000 in
set_option maxRecDepth 100000 in
/-- model.sell(k) -/
theorem c_X5_sell (l : Launch) (D : va_G) (cA : Nat → ClassId) (e0 : Nat) (A : Nat → Prop) (H0 : Heap) (b : Nat → Nat) (g : Nat → Nat → Int32) (tt : Nat → Int64) (n np : Nat) (hX : yW D cA b g tt n np H0) (hA : yA A b n np) (k : Nat) (hk : k < 48) : Met l yX5_sell w_X5_sell ({ frames := 0, cells := 0, slots := 0, locals := 0 } : Room) (xPc D cA e0 A H0 [.ref (b 0), .int (nI (k))]) (xQi (fun r h => (seY g (k / 6) k ∧ r = nI 1 ∧ yW D cA b (seP g (k / 6) k) tt n np h) ∨ (¬ seY g (k / 6) k ∧ r = nI 0 ∧ yW D cA b (seN g k) tt n np h)) A) 0 0 (A) := by
  refine Met.ofW (cc := cX5_sell) (maxL := 4) (ret := (some .boolean)) (by decide) rfl ?_
  intro p e s m args below meth c s₁ B hml hv
  obtain ⟨rfl, hH, hE⟩ := hv
  subst hH
  have hx := B.exec
  have hb := B.bytes
  have hr := B.returns
  have hts := hE.1.all ([.ref (b 0), .int (nI (k))] : List Value).toArray
  have hown : s.vm.findClass RX5 = some m.cls := findClass_of_methodNamed B.named
  have hlocks := B.notSynchronized
  have hK := hE.2.1
  have hS : va_S A s.heap s.heap [] := va_S.rf
  have hl := lv_entry ([.ref (b 0), .int (nI (k))]) (n := 4) (Nat.le_of_ble_eq_true rfl)
  rw [lg_entry_eq]
  generalize (lg_sl ([.ref (b 0), .int (nI (k))]) ++ List.replicate (4 - (lg_sl ([.ref (b 0), .int (nI (k))])).length) Slot.unset).toArray = ls at hl ⊢
  have hl : lv_has ls 4 [(0, .ref (b 0)), (1, .int (nI (k)))] := hl
  refine lv_iload_n hx hb dX5_sell_0 rfl (lv_at hl 1 rfl) ?_
  refine lv_bipush (v := nI 6) hx hb dX5_sell_1 (by decide) ?_
  refine lv_idiv hx hb dX5_sell_3 (by decide) ?_
  refine xtop (show ((nI (k)) / (nI 6)) = nI (k / 6) from pk_div (by omega) (by omega) (by omega)) ?_
  refine lv_istore_n (lv' := [(2, .int (nI (k / 6))), (0, .ref (b 0)), (1, .int (nI (k)))]) hx hb dX5_sell_4 rfl hl (by decide) rfl (fun ls hl => ?_)
  refine lv_aload_n hx hb dX5_sell_5 rfl (lv_at hl 1 rfl) ?_
  refine va_get (D := D) (ci := 6) (v := .ref (b 6)) (C := RX5) (T := TX5) (N := 17) hx hb hts qi_X5 hown hK (xP1 (hX.main)) 0 rfl rfl 8 (by decide) (hts _ q_fl_X5_25) (fun _ h9 => h9) rfl dX5_sell_6 ?_
  refine lv_iload_n hx hb dX5_sell_9 rfl (lv_at hl 2 rfl) ?_
  refine va_iald hx hb hK (xP1 (hX.t5)) 0 0 rfl rfl (i := nI (k)) (vp_in_nI (n := k) (by omega) (by omega)) dX5_sell_10 ?_
  refine xtop (show ((fun z => g 5 (z)) (nI (k)).toNatClampNeg) = g 5 (k) from by rw [nI_clamp (n := k) (by omega)]) ?_
  refine lv_if_le (tgt := 40) hx hb dX5_sell_11 (by decide) (fun c11 => ?_) (fun c11 => ?_)
  · refine lv_iconst (v := nI 0) hx hb dX5_sell_40 (by decide) ?_
    refine lv_istore_n (lv' := [(3, .int (nI 0)), (2, .int (nI (k / 6))), (0, .ref (b 0)), (1, .int (nI (k)))]) hx hb dX5_sell_41 rfl hl (by decide) rfl (fun ls hl => ?_)
    refine lv_iload_n hx hb dX5_sell_42 rfl (lv_at hl 0 rfl) ?_
    refine lv_if_eq (tgt := 84) hx hb dX5_sell_43 (by decide) (fun _ => ?_) (fun hno => absurd (rfl) hno)
    refine lv_aload_n hx hb dX5_sell_84 rfl (lv_at hl 2 rfl) ?_
    refine va_get (D := D) (ci := 6) (v := .ref (b 10)) (C := RX5) (T := TX5) (N := 17) hx hb hts qi_X5 hown hK (xP1 (hX.main)) 0 rfl rfl 12 (by decide) (hts _ q_fl_X5_37) (fun _ h9 => h9) rfl dX5_sell_85 ?_
    refine lv_iload_n hx hb dX5_sell_88 rfl (lv_at hl 3 rfl) ?_
    refine lv_dup2_11 hx hb dX5_sell_89 rfl rfl ?_
    refine va_iald hx hb hK (xP1 (hX.t9)) 0 0 rfl rfl (i := nI (k)) (vp_in_nI (n := k) (by omega) (by omega)) dX5_sell_90 ?_
    refine xtop (show ((fun z => g 9 (z)) (nI (k)).toNatClampNeg) = g 9 (k) from by rw [nI_clamp (n := k) (by omega)]) ?_
    refine lv_iconst (v := nI 1) hx hb dX5_sell_91 (by decide) ?_
    refine lv_iadd hx hb dX5_sell_92 ?_
    refine xiast (D := D) hx hb hK hS 0 (hX.t9) (hA.a (show 10 < 14 by omega)) rfl (i := nI (k)) (x := (g 9 (k)) + (nI 1)) (vp_in_nI (n := k) (by omega) (by omega)) dX5_sell_93 (fun H1 locs hU hS => ?_)
    rw [nI_clamp (n := k) (by omega)] at hU
    have hX2 := hX.p9 hA hU
    obtain ⟨g2, hg2⟩ : ∃ z, z = va_up g 9 (upd (g 9) (k) ((g 9 (k)) + (nI 1))) := ⟨_, rfl⟩
    rw [← hg2] at hX2
    refine lv_iload_n hx hb dX5_sell_94 rfl (lv_at hl 0 rfl) ?_
    have hpost : (fun r h => (seY g (k / 6) k ∧ r = nI 1 ∧ yW D cA b (seP g (k / 6) k) tt n np h) ∨ (¬ seY g (k / 6) k ∧ r = nI 0 ∧ yW D cA b (seN g k) tt n np h)) (nI 0) H1 := by
      exact Or.inr ⟨fun z => le_nlt c11 z.1, rfl, by
        have hse : g2 = seN g k := hg2
        rw [← hse]
        exact hX2⟩
    refine W.widen (k := 0) (n := 0) (by omega) (by omega) ?_
    exact W.zret (v := (nI 0)) (ty := .boolean) hx hb hr (by decide) (fun t ht _ => ⟨⟨(nI 0), H1, rfl, hpost, ht⟩, hS.F ht⟩) hS.2.2 dX5_sell_95
  · refine lv_aload_n hx hb dX5_sell_14 rfl (lv_at hl 1 rfl) ?_
    refine va_get (D := D) (ci := 6) (v := .ref (b 2)) (C := RX5) (T := TX5) (N := 17) hx hb hts qi_X5 hown hK (xP1 (hX.main)) 0 rfl rfl 4 (by decide) (hts _ q_fl_X5_13) (fun _ h9 => h9) rfl dX5_sell_15 ?_
    refine lv_iload_n hx hb dX5_sell_18 rfl (lv_at hl 0 rfl) ?_
    refine va_iald hx hb hK (xP1 (hX.t1)) 0 0 rfl rfl (i := nI (k / 6)) (vp_in_nI (n := k / 6) (by omega) (by omega)) dX5_sell_19 ?_
    refine xtop (show ((fun z => g 1 (z)) (nI (k / 6)).toNatClampNeg) = g 1 (k / 6) from by rw [nI_clamp (n := k / 6) (by omega)]) ?_
    refine lv_aload_n hx hb dX5_sell_20 rfl (lv_at hl 1 rfl) ?_
    refine va_get (D := D) (ci := 6) (v := .ref (b 7)) (C := RX5) (T := TX5) (N := 17) hx hb hts qi_X5 hown hK (xP1 (hX.main)) 0 rfl rfl 9 (by decide) (hts _ q_fl_X5_28) (fun _ h9 => h9) rfl dX5_sell_21 ?_
    refine lv_iload_n hx hb dX5_sell_24 rfl (lv_at hl 2 rfl) ?_
    refine va_iald hx hb hK (xP1 (hX.t6)) 0 0 rfl rfl (i := nI (k)) (vp_in_nI (n := k) (by omega) (by omega)) dX5_sell_25 ?_
    refine xtop (show ((fun z => g 6 (z)) (nI (k)).toNatClampNeg) = g 6 (k) from by rw [nI_clamp (n := k) (by omega)]) ?_
    refine lv_iadd hx hb dX5_sell_26 ?_
    refine lv_aload_n hx hb dX5_sell_27 rfl (lv_at hl 1 rfl) ?_
    refine va_get (D := D) (ci := 6) (v := .ref (b 1)) (C := RX5) (T := TX5) (N := 17) hx hb hts qi_X5 hown hK (xP1 (hX.main)) 0 rfl rfl 3 (by decide) (hts _ q_fl_X5_9) (fun _ h9 => h9) rfl dX5_sell_28 ?_
    refine lv_iload_n hx hb dX5_sell_31 rfl (lv_at hl 0 rfl) ?_
    refine va_iald hx hb hK (xP1 (hX.t0)) 0 0 rfl rfl (i := nI (k / 6)) (vp_in_nI (n := k / 6) (by omega) (by omega)) dX5_sell_32 ?_
    refine xtop (show ((fun z => g 0 (z)) (nI (k / 6)).toNatClampNeg) = g 0 (k / 6) from by rw [nI_clamp (n := k / 6) (by omega)]) ?_
    refine lv_icmp_gt (tgt := 40) hx hb dX5_sell_33 (by decide) (fun c33 => ?_) (fun c33 => ?_)
    · refine lv_iconst (v := nI 0) hx hb dX5_sell_40 (by decide) ?_
      refine lv_istore_n (lv' := [(3, .int (nI 0)), (2, .int (nI (k / 6))), (0, .ref (b 0)), (1, .int (nI (k)))]) hx hb dX5_sell_41 rfl hl (by decide) rfl (fun ls hl => ?_)
      refine lv_iload_n hx hb dX5_sell_42 rfl (lv_at hl 0 rfl) ?_
      refine lv_if_eq (tgt := 84) hx hb dX5_sell_43 (by decide) (fun _ => ?_) (fun hno => absurd (rfl) hno)
      refine lv_aload_n hx hb dX5_sell_84 rfl (lv_at hl 2 rfl) ?_
      refine va_get (D := D) (ci := 6) (v := .ref (b 10)) (C := RX5) (T := TX5) (N := 17) hx hb hts qi_X5 hown hK (xP1 (hX.main)) 0 rfl rfl 12 (by decide) (hts _ q_fl_X5_37) (fun _ h9 => h9) rfl dX5_sell_85 ?_
      refine lv_iload_n hx hb dX5_sell_88 rfl (lv_at hl 3 rfl) ?_
      refine lv_dup2_11 hx hb dX5_sell_89 rfl rfl ?_
      refine va_iald hx hb hK (xP1 (hX.t9)) 0 0 rfl rfl (i := nI (k)) (vp_in_nI (n := k) (by omega) (by omega)) dX5_sell_90 ?_
      refine xtop (show ((fun z => g 9 (z)) (nI (k)).toNatClampNeg) = g 9 (k) from by rw [nI_clamp (n := k) (by omega)]) ?_
      refine lv_iconst (v := nI 1) hx hb dX5_sell_91 (by decide) ?_
      refine lv_iadd hx hb dX5_sell_92 ?_
      refine xiast (D := D) hx hb hK hS 0 (hX.t9) (hA.a (show 10 < 14 by omega)) rfl (i := nI (k)) (x := (g 9 (k)) + (nI 1)) (vp_in_nI (n := k) (by omega) (by omega)) dX5_sell_93 (fun H3 locs hU hS => ?_)
      rw [nI_clamp (n := k) (by omega)] at hU
      have hX4 := hX.p9 hA hU
      obtain ⟨g4, hg4⟩ : ∃ z, z = va_up g 9 (upd (g 9) (k) ((g 9 (k)) + (nI 1))) := ⟨_, rfl⟩
      rw [← hg4] at hX4
      refine lv_iload_n hx hb dX5_sell_94 rfl (lv_at hl 0 rfl) ?_
      have hpost : (fun r h => (seY g (k / 6) k ∧ r = nI 1 ∧ yW D cA b (seP g (k / 6) k) tt n np h) ∨ (¬ seY g (k / 6) k ∧ r = nI 0 ∧ yW D cA b (seN g k) tt n np h)) (nI 0) H3 := by
        exact Or.inr ⟨fun z => gt_nle c33 z.2, rfl, by
          have hse : g4 = seN g k := hg4
          rw [← hse]
          exact hX4⟩
      refine W.widen (k := 0) (n := 0) (by omega) (by omega) ?_
      exact W.zret (v := (nI 0)) (ty := .boolean) hx hb hr (by decide) (fun t ht _ => ⟨⟨(nI 0), H3, rfl, hpost, ht⟩, hS.F ht⟩) hS.2.2 dX5_sell_95
    · refine lv_iconst (v := nI 1) hx hb dX5_sell_36 (by decide) ?_
      refine lv_goto (tgt := 41) hx hb dX5_sell_37 (by decide) ?_
      refine lv_istore_n (lv' := [(3, .int (nI 1)), (2, .int (nI (k / 6))), (0, .ref (b 0)), (1, .int (nI (k)))]) hx hb dX5_sell_41 rfl hl (by decide) rfl (fun ls hl => ?_)
      refine lv_iload_n hx hb dX5_sell_42 rfl (lv_at hl 0 rfl) ?_
      refine lv_if_eq (tgt := 84) hx hb dX5_sell_43 (by decide) (fun hno => absurd hno ((by decide))) (fun _ => ?_)
      refine lv_aload_n hx hb dX5_sell_46 rfl (lv_at hl 2 rfl) ?_
      refine va_get (D := D) (ci := 6) (v := .ref (b 6)) (C := RX5) (T := TX5) (N := 17) hx hb hts qi_X5 hown hK (xP1 (hX.main)) 0 rfl rfl 8 (by decide) (hts _ q_fl_X5_25) (fun _ h9 => h9) rfl dX5_sell_47 ?_
      refine lv_iload_n hx hb dX5_sell_50 rfl (lv_at hl 3 rfl) ?_
      refine lv_dup2_11 hx hb dX5_sell_51 rfl rfl ?_
      refine va_iald hx hb hK (xP1 (hX.t5)) 0 0 rfl rfl (i := nI (k)) (vp_in_nI (n := k) (by omega) (by omega)) dX5_sell_52 ?_
      refine xtop (show ((fun z => g 5 (z)) (nI (k)).toNatClampNeg) = g 5 (k) from by rw [nI_clamp (n := k) (by omega)]) ?_
      refine lv_iconst (v := nI 1) hx hb dX5_sell_53 (by decide) ?_
      refine lv_isub hx hb dX5_sell_54 ?_
      refine xiast (D := D) hx hb hK hS 0 (hX.t5) (hA.a (show 6 < 14 by omega)) rfl (i := nI (k)) (x := (g 5 (k)) - (nI 1)) (vp_in_nI (n := k) (by omega) (by omega)) dX5_sell_55 (fun H5 locs hU hS => ?_)
      rw [nI_clamp (n := k) (by omega)] at hU
      have hX6 := hX.p5 hA hU
      obtain ⟨g6, hg6⟩ : ∃ z, z = va_up g 5 (upd (g 5) (k) ((g 5 (k)) - (nI 1))) := ⟨_, rfl⟩
      rw [← hg6] at hX6
      refine lv_aload_n hx hb dX5_sell_56 rfl (lv_at hl 2 rfl) ?_
      refine va_get (D := D) (ci := 6) (v := .ref (b 2)) (C := RX5) (T := TX5) (N := 17) hx hb hts qi_X5 hown hK (xP1 (hX6.main)) 0 rfl rfl 4 (by decide) (hts _ q_fl_X5_13) (fun _ h9 => h9) rfl dX5_sell_57 ?_
      refine lv_iload_n hx hb dX5_sell_60 rfl (lv_at hl 1 rfl) ?_
      refine lv_dup2_11 hx hb dX5_sell_61 rfl rfl ?_
      refine va_iald hx hb hK (xP1 (hX6.t1)) 0 0 rfl rfl (i := nI (k / 6)) (vp_in_nI (n := k / 6) (by omega) (by omega)) dX5_sell_62 ?_
      refine xtop (show ((fun z => g6 1 (z)) (nI (k / 6)).toNatClampNeg) = g6 1 (k / 6) from by rw [nI_clamp (n := k / 6) (by omega)]) ?_
      refine lv_aload_n hx hb dX5_sell_63 rfl (lv_at hl 2 rfl) ?_
      refine va_get (D := D) (ci := 6) (v := .ref (b 7)) (C := RX5) (T := TX5) (N := 17) hx hb hts qi_X5 hown hK (xP1 (hX6.main)) 0 rfl rfl 9 (by decide) (hts _ q_fl_X5_28) (fun _ h9 => h9) rfl dX5_sell_64 ?_
      refine lv_iload_n hx hb dX5_sell_67 rfl (lv_at hl 3 rfl) ?_
      refine va_iald hx hb hK (xP1 (hX6.t6)) 0 0 rfl rfl (i := nI (k)) (vp_in_nI (n := k) (by omega) (by omega)) dX5_sell_68 ?_
      refine xtop (show ((fun z => g6 6 (z)) (nI (k)).toNatClampNeg) = g6 6 (k) from by rw [nI_clamp (n := k) (by omega)]) ?_
      refine lv_iadd hx hb dX5_sell_69 ?_
      refine xiast (D := D) hx hb hK hS 0 (hX6.t1) (hA.a (show 2 < 14 by omega)) rfl (i := nI (k / 6)) (x := (g6 1 (k / 6)) + (g6 6 (k))) (vp_in_nI (n := k / 6) (by omega) (by omega)) dX5_sell_70 (fun H7 locs hU hS => ?_)
      rw [nI_clamp (n := k / 6) (by omega)] at hU
      have hX8 := hX6.p1 hA hU
      obtain ⟨g8, hg8⟩ : ∃ z, z = va_up g6 1 (upd (g6 1) (k / 6) ((g6 1 (k / 6)) + (g6 6 (k)))) := ⟨_, rfl⟩
      rw [← hg8] at hX8
      refine lv_aload_n hx hb dX5_sell_71 rfl (lv_at hl 2 rfl) ?_
      refine va_get (D := D) (ci := 6) (v := .ref (b 9)) (C := RX5) (T := TX5) (N := 17) hx hb hts qi_X5 hown hK (xP1 (hX8.main)) 0 rfl rfl 11 (by decide) (hts _ q_fl_X5_34) (fun _ h9 => h9) rfl dX5_sell_72 ?_
      refine lv_iload_n hx hb dX5_sell_75 rfl (lv_at hl 3 rfl) ?_
      refine lv_dup2_11 hx hb dX5_sell_76 rfl rfl ?_
      refine va_iald hx hb hK (xP1 (hX8.t8)) 0 0 rfl rfl (i := nI (k)) (vp_in_nI (n := k) (by omega) (by omega)) dX5_sell_77 ?_
      refine xtop (show ((fun z => g8 8 (z)) (nI (k)).toNatClampNeg) = g8 8 (k) from by rw [nI_clamp (n := k) (by omega)]) ?_
      refine lv_iconst (v := nI 1) hx hb dX5_sell_78 (by decide) ?_
      refine lv_iadd hx hb dX5_sell_79 ?_
      refine xiast (D := D) hx hb hK hS 0 (hX8.t8) (hA.a (show 9 < 14 by omega)) rfl (i := nI (k)) (x := (g8 8 (k)) + (nI 1)) (vp_in_nI (n := k) (by omega) (by omega)) dX5_sell_80 (fun H9 locs hU hS => ?_)
      rw [nI_clamp (n := k) (by omega)] at hU
      have hX10 := hX8.p8 hA hU
      obtain ⟨g10, hg10⟩ : ∃ z, z = va_up g8 8 (upd (g8 8) (k) ((g8 8 (k)) + (nI 1))) := ⟨_, rfl⟩
      rw [← hg10] at hX10
      refine lv_goto (tgt := 94) hx hb dX5_sell_81 (by decide) ?_
      refine lv_iload_n hx hb dX5_sell_94 rfl (lv_at hl 0 rfl) ?_
      have hpost : (fun r h => (seY g (k / 6) k ∧ r = nI 1 ∧ yW D cA b (seP g (k / 6) k) tt n np h) ∨ (¬ seY g (k / 6) k ∧ r = nI 0 ∧ yW D cA b (seN g k) tt n np h)) (nI 1) H9 := by
        have hse : g10 = seP g (k / 6) k := by
          rw [hg10, hg8, hg6]
          unfold seP
          rw [up_ne (show 8 ≠ 1 by omega), up_ne (show 8 ≠ 5 by omega), up_ne (show 1 ≠ 5 by omega), up_ne (show 6 ≠ 5 by omega)]
        exact Or.inl ⟨⟨nle_lt c11, ngt_le c33⟩, rfl, by rw [← hse]; exact hX10⟩
      refine W.widen (k := 0) (n := 0) (by omega) (by omega) ?_
      exact W.zret (v := (nI 1)) (ty := .boolean) hx hb hr (by decide) (fun t ht _ => ⟨⟨(nI 1), H9, rfl, hpost, ht⟩, hS.F ht⟩) hS.2.2 dX5_sell_95
set_option maxHeartbeats 4000000 in
set_option maxRecDepth 100000 in
/-- model.change() -/
theorem c_X5_change (l : Launch) (D : va_G) (cA : Nat → ClassId) (e0 : Nat) (A : Nat → Prop) (H0 : Heap) (b : Nat → Nat) (g : Nat → Nat → Int32) (tt : Nat → Int64) (n np : Nat) (hX : yW D cA b g tt n np H0) (hA : yA A b n np) (hP : plOK g np) (hC : chS g n np) : Met l yX5_change w_X5_change ({ frames := 0, cells := 0, slots := 0, locals := 0 } : Room) (xPc D cA e0 A H0 [.ref (b 0)]) (xQv (fun h => ∃ g2, yW D cA b g2 tt n (kpt g np).length h ∧ eqT (chG (cpG g np) (kpt g np)) g2 ∧ plOK g2 (kpt g np).length ∧ chS g2 n (kpt g np).length ∧ g2 20 = g 20) A) 0 0 (A) := by
  refine Met.ofW (cc := cX5_change) (maxL := 4) (ret := none) (by decide) rfl ?_
  intro p e s m args below meth c s₁ B hml hv
  obtain ⟨rfl, hH, hE⟩ := hv
  subst hH
  have hx := B.exec
  have hb := B.bytes
  have hr := B.returns
  have hts := hE.1.all ([.ref (b 0)] : List Value).toArray
  have hown : s.vm.findClass RX5 = some m.cls := findClass_of_methodNamed B.named
  have hlocks := B.notSynchronized
  have hK := hE.2.1
  have hS : va_S A s.heap s.heap [] := va_S.rf
  have hl := lv_entry ([.ref (b 0)]) (n := 4) (Nat.le_of_ble_eq_true rfl)
  rw [lg_entry_eq]
  generalize (lg_sl ([.ref (b 0)]) ++ List.replicate (4 - (lg_sl ([.ref (b 0)])).length) Slot.unset).toArray = ls at hl ⊢
  have hl : lv_has ls 4 [(0, .ref (b 0))] := hl
  have hn8 := hA.2.2.1
  have hnp := hA.2.2.2
  refine lv_iconst (v := nI 0) hx hb dX5_change_0 (by decide) ?_
  refine lv_istore_n (lv' := [(1, .int (nI 0)), (0, .ref (b 0))]) hx hb dX5_change_1 rfl hl (by decide) rfl (fun ls hl => ?_)
  refine lv_iconst (v := nI 0) hx hb dX5_change_2 (by decide) ?_
  refine lv_istore_n (lv' := [(2, .int (nI 0)), (1, .int (nI 0)), (0, .ref (b 0))]) hx hb dX5_change_3 rfl hl (by decide) rfl (fun ls hl => ?_)
  have LOOP4 : ∀ (n4 : Nat) (c1 : Nat) (k : Nat) (g1 : Nat → Nat → Int32) (H : Heap) (locs : List Loc) (ls : Array Slot), (k ≤ np) → (yW D cA b g1 tt n np H) → (chM g g1 k c1) → va_S A s.heap H locs → (np - k) < n4 → lv_has ls 4 [(1, .int (nI (c1))), (2, .int (nI (k))), (0, .ref (b 0))] → W p l e (headSpec w_X5_change ({ frames := 0, cells := 0, slots := 0, locals := 0 } : Room)).room s m ([.ref (b 0)] : List Value).toArray below meth c H locs 0 0 (MQ below (xQv (fun h => ∃ g2, yW D cA b g2 tt n (kpt g np).length h ∧ eqT (chG (cpG g np) (kpt g np)) g2 ∧ plOK g2 (kpt g np).length ∧ chS g2 n (kpt g np).length ∧ g2 20 = g 20) A) ([.ref (b 0)] : List Value).toArray s 0 0 (A)) (F0 m 4 ls []) := by
    intro n4
    induction n4 with
    | zero => intro c1 k g1 H locs ls hk hX1 hM hS hmeas hl; exact absurd hmeas (Nat.not_lt_zero _)
    | succ n4 ih4 =>
      intro c1 k g1 H locs ls hk hX1 hM hS hmeas hl
      have hle := hM.le
      refine lv_iload_n hx hb dX5_change_4 rfl (lv_at hl 1 rfl) ?_
      refine lv_aload_n hx hb dX5_change_5 rfl (lv_at hl 2 rfl) ?_
      refine va_get (D := D) (ci := 6) (v := .int (nI (np))) (C := RX5) (T := TX5) (N := 17) hx hb hts qi_X5 hown hK (xP1 (hX1.main)) 0 rfl rfl 13 (by decide) (hts _ q_fl_X5_86) (fun _ h9 => h9) rfl dX5_change_6 ?_
      refine lv_icmp_ge (tgt := 97) hx hb dX5_change_9 (by decide) (fun c9 => ?_) (fun c9 => ?_)
      · have c9 : np ≤ k := (nI_leI (a := np) (b := k) (by omega) (by omega)).mp c9
        have hkn : k = np := by omega
        rw [hkn] at hM
        refine lv_aload_n hx hb dX5_change_97 rfl (lv_at hl 2 rfl) ?_
        refine lv_iload_n hx hb dX5_change_98 rfl (lv_at hl 0 rfl) ?_
        refine xput (D := D) (ci := 6) (v := .int (nI (c1))) (C := RX5) (T := TX5) (N := 17) hx hb hts qi_X5 tyX5 tyX5_ok nmX5 hown hK hS (hX1.main) (hA.a (show 0 < 14 by omega)) rfl 13 (by decide) (hts _ q_fl_X5_86) (fun _ h9 => h9) rfl (tyX5_ok 13 (by decide)) rfl rfl (Nat.le_of_ble_eq_true rfl) dX5_change_99 (fun H1 locs hU hS => ?_)
        have hXN : yW D cA b g1 tt n c1 H1 := hX1.pnp hA hU
        have hpost : (fun h => ∃ g2, yW D cA b g2 tt n (kpt g np).length h ∧ eqT (chG (cpG g np) (kpt g np)) g2 ∧ plOK g2 (kpt g np).length ∧ chS g2 n (kpt g np).length ∧ g2 20 = g 20) H1 := by
          obtain ⟨g2, h1, h2, h3, h4, h5⟩ := chM_end hM hP hC
          exact ⟨g2, by rw [← hM.2.2.1]; exact hXN.gh h1, h2, h3, h4, h5⟩
        refine W.widen (k := 0) (n := 0) (by omega) (by omega) ?_
        exact W.vret hx hb hr (fun t ht _ => ⟨⟨H1, rfl, hpost, ht⟩, hS.F ht⟩) hS.2.2 dX5_change_102
      · have c9 : ¬ (np ≤ k) := fun z => c9 ((nI_leI (a := np) (b := k) (by omega) (by omega)).mpr z)
        have hk9 : k < np := by omega
        have hat := chM_at hM hP hk9
        obtain ⟨s0, hs0, hs1⟩ := hC k hk9
        refine lv_aload_n hx hb dX5_change_12 rfl (lv_at hl 2 rfl) ?_
        refine va_get (D := D) (ci := 6) (v := .ref (b 11)) (C := RX5) (T := TX5) (N := 17) hx hb hts qi_X5 hown hK (xP1 (hX1.main)) 0 rfl rfl 14 (by decide) (hts _ q_fl_X5_40) (fun _ h9 => h9) rfl dX5_change_13 ?_
        refine lv_iconst (v := nI 3) hx hb dX5_change_16 (by decide) ?_
        refine lv_iload_n hx hb dX5_change_17 rfl (lv_at hl 1 rfl) ?_
        refine lv_imul hx hb dX5_change_18 ?_
        refine xtop (show ((nI 3) * (nI (k))) = nI (3 * k) from pk_mul 3 k) ?_
        refine va_iald hx hb hK (xP1 (hX1.t21)) 0 0 rfl rfl (i := nI (3 * k)) (vp_in_nI (n := 3 * k) (by omega) (by omega)) dX5_change_19 ?_
        refine xtop (show ((fun z => g1 21 (z)) (nI (3 * k)).toNatClampNeg) = g1 21 (3 * k) from by rw [nI_clamp (n := 3 * k) (by omega)]) ?_
        refine lv_aload_n hx hb dX5_change_20 rfl (lv_at hl 2 rfl) ?_
        refine va_get (D := D) (ci := 6) (v := .int (g1 13 0)) (C := RX5) (T := TX5) (N := 17) hx hb hts qi_X5 hown hK (xP1 (hX1.main)) 0 rfl rfl 1 (by decide) (hts _ q_fl_X5_83) (fun _ h9 => h9) rfl dX5_change_21 ?_
        refine lv_icmp_ne (tgt := 55) hx hb dX5_change_24 (by decide) (fun c24 => ?_) (fun c24 => ?_)
        · have hd : ¬ g 10 k = g 13 0 := fun z => c24 (by rw [hat.1, hat.2.2.2]; exact z)
          refine lv_iconst (v := nI 0) hx hb dX5_change_55 (by decide) ?_
          refine lv_istore_n (lv' := [(3, .int (nI 0)), (1, .int (nI (c1))), (2, .int (nI (k))), (0, .ref (b 0))]) hx hb dX5_change_56 rfl hl (by decide) rfl (fun ls hl => ?_)
          have LOOP57 : ∀ (n57 : Nat) (i : Nat) (gB : Nat → Nat → Int32) (H : Heap) (locs : List Loc) (ls : Array Slot), (i ≤ 3) → (yW D cA b gB tt n np H) → (gB = va_up g1 21 (cp3 (g1 21) (g 21) c1 k i)) → va_S A s.heap H locs → (3 - i) < n57 → lv_has ls 4 [(3, .int (nI (i))), (1, .int (nI (c1))), (2, .int (nI (k))), (0, .ref (b 0))] → W p l e (headSpec w_X5_change ({ frames := 0, cells := 0, slots := 0, locals := 0 } : Room)).room s m ([.ref (b 0)] : List Value).toArray below meth c H locs 0 0 (MQ below (xQv (fun h => ∃ g2, yW D cA b g2 tt n (kpt g np).length h ∧ eqT (chG (cpG g np) (kpt g np)) g2 ∧ plOK g2 (kpt g np).length ∧ chS g2 n (kpt g np).length ∧ g2 20 = g 20) A) ([.ref (b 0)] : List Value).toArray s 0 0 (A)) (F0 m 57 ls []) := by
            intro n57
            induction n57 with
            | zero => intro i gB H locs ls hi hXB hgB hS hmeas hl; exact absurd hmeas (Nat.not_lt_zero _)
            | succ n57 ih57 =>
              intro i gB H locs ls hi hXB hgB hS hmeas hl
              refine lv_iload_n hx hb dX5_change_57 rfl (lv_at hl 0 rfl) ?_
              refine lv_iconst (v := nI 3) hx hb dX5_change_58 (by decide) ?_
              refine lv_icmp_ge (tgt := 88) hx hb dX5_change_59 (by decide) (fun c59 => ?_) (fun c59 => ?_)
              · have c59 : 3 ≤ i := (nI_leI (a := 3) (b := i) (by omega) (by omega)).mp c59
                have hi3 : i = 3 := by omega
                refine lv_iinc (v := nI (c1 + 1)) (lv' := [(1, .int (nI (c1 + 1))), (3, .int (nI (i))), (2, .int (nI (k))), (0, .ref (b 0))]) hx hb dX5_change_88 hl (k := 1) rfl (nI_add c1 1) (by decide) rfl (fun ls hl => ?_)
                refine lv_iinc (v := nI (k + 1)) (lv' := [(2, .int (nI (k + 1))), (1, .int (nI (c1 + 1))), (3, .int (nI (i))), (0, .ref (b 0))]) hx hb dX5_change_91 hl (k := 2) rfl (nI_add k 1) (by decide) rfl (fun ls hl => ?_)
                refine lv_goto (tgt := 4) hx hb dX5_change_94 (by decide) ?_
                exact ih4 (c1 + 1) (k + 1) gB H locs _ (by omega) hXB (chM_keep hM hd (fun t a => by rw [hgB, up_ne a]) (by rw [hgB, up_eq, hi3])) hS (by omega) (lv_sub hl [1, 0, 3] rfl)
              · have c59 : ¬ (3 ≤ i) := fun z => c59 ((nI_leI (a := 3) (b := i) (by omega) (by omega)).mpr z)
                refine lv_aload_n hx hb dX5_change_62 rfl (lv_at hl 3 rfl) ?_
                refine va_get (D := D) (ci := 6) (v := .ref (b 11)) (C := RX5) (T := TX5) (N := 17) hx hb hts qi_X5 hown hK (xP1 (hXB.main)) 0 rfl rfl 14 (by decide) (hts _ q_fl_X5_40) (fun _ h9 => h9) rfl dX5_change_63 ?_
                refine lv_iconst (v := nI 3) hx hb dX5_change_66 (by decide) ?_
                refine lv_iload_n hx hb dX5_change_67 rfl (lv_at hl 1 rfl) ?_
                refine lv_imul hx hb dX5_change_68 ?_
                refine xtop (show ((nI 3) * (nI (c1))) = nI (3 * c1) from pk_mul 3 c1) ?_
                refine lv_iload_n hx hb dX5_change_69 rfl (lv_at hl 0 rfl) ?_
                refine lv_iadd hx hb dX5_change_70 ?_
                refine xtop (show ((nI (3 * c1)) + (nI (i))) = nI ((3 * c1) + i) from nI_add (3 * c1) i) ?_
                refine lv_aload_n hx hb dX5_change_71 rfl (lv_at hl 3 rfl) ?_
                refine va_get (D := D) (ci := 6) (v := .ref (b 11)) (C := RX5) (T := TX5) (N := 17) hx hb hts qi_X5 hown hK (xP1 (hXB.main)) 0 rfl rfl 14 (by decide) (hts _ q_fl_X5_40) (fun _ h9 => h9) rfl dX5_change_72 ?_
                refine lv_iconst (v := nI 3) hx hb dX5_change_75 (by decide) ?_
                refine lv_iload_n hx hb dX5_change_76 rfl (lv_at hl 2 rfl) ?_
                refine lv_imul hx hb dX5_change_77 ?_
                refine xtop (show ((nI 3) * (nI (k))) = nI (3 * k) from pk_mul 3 k) ?_
                refine lv_iload_n hx hb dX5_change_78 rfl (lv_at hl 0 rfl) ?_
                refine lv_iadd hx hb dX5_change_79 ?_
                refine xtop (show ((nI (3 * k)) + (nI (i))) = nI ((3 * k) + i) from nI_add (3 * k) i) ?_
                refine va_iald hx hb hK (xP1 (hXB.t21)) 0 0 rfl rfl (i := nI ((3 * k) + i)) (vp_in_nI (n := (3 * k) + i) (by omega) (by omega)) dX5_change_80 ?_
                refine xtop (show ((fun z => gB 21 (z)) (nI ((3 * k) + i)).toNatClampNeg) = g 21 (3 * k + i) from by
                    rw [nI_clamp (n := 3 * k + i) (by omega), hgB, up_eq]
                    exact cp3_ge hle hM.2.2.2.2 i (by omega) _ (by omega)) ?_
                refine xiast (D := D) hx hb hK hS 0 (hXB.t21) (hA.a (show 11 < 14 by omega)) rfl (i := nI ((3 * c1) + i)) (x := g 21 (3 * k + i)) (vp_in_nI (n := (3 * c1) + i) (by omega) (by omega)) dX5_change_81 (fun H2 locs hU hS => ?_)
                rw [nI_clamp (n := (3 * c1) + i) (by omega)] at hU
                have hX3 := hXB.p21 hA hU
                obtain ⟨g3, hg3⟩ : ∃ z, z = va_up gB 21 (upd (gB 21) ((3 * c1) + i) (g 21 (3 * k + i))) := ⟨_, rfl⟩
                rw [← hg3] at hX3
                refine lv_iinc (v := nI (i + 1)) (lv' := [(3, .int (nI (i + 1))), (1, .int (nI (c1))), (2, .int (nI (k))), (0, .ref (b 0))]) hx hb dX5_change_82 hl (k := 0) rfl (nI_add i 1) (by decide) rfl (fun ls hl => ?_)
                refine lv_goto (tgt := 57) hx hb dX5_change_85 (by decide) ?_
                exact ih57 (i + 1) g3 H2 locs _ (by omega) hX3 (by
                    rw [hg3, hgB, up_eq, up_up]
                    rfl) hS (by omega) (lv_sub hl [0, 1, 2, 3] rfl)
          exact LOOP57 _ 0 g1 H locs _ (by omega) hX1 (show g1 = va_up g1 21 (g1 21) from up_id.symm) hS (Nat.lt_succ_self _) (lv_sub hl [0, 1, 2, 3] rfl)
        · have hd : g 10 k = g 13 0 := by rw [← hat.1, ← hat.2.2.2]; exact c24
          refine lv_aload_n hx hb dX5_change_27 rfl (lv_at hl 2 rfl) ?_
          refine va_get (D := D) (ci := 6) (v := .ref (b 7)) (C := RX5) (T := TX5) (N := 17) hx hb hts qi_X5 hown hK (xP1 (hX1.main)) 0 rfl rfl 9 (by decide) (hts _ q_fl_X5_28) (fun _ h9 => h9) rfl dX5_change_28 ?_
          refine lv_aload_n hx hb dX5_change_31 rfl (lv_at hl 2 rfl) ?_
          refine va_get (D := D) (ci := 6) (v := .ref (b 11)) (C := RX5) (T := TX5) (N := 17) hx hb hts qi_X5 hown hK (xP1 (hX1.main)) 0 rfl rfl 14 (by decide) (hts _ q_fl_X5_40) (fun _ h9 => h9) rfl dX5_change_32 ?_
          refine lv_iconst (v := nI 3) hx hb dX5_change_35 (by decide) ?_
          refine lv_iload_n hx hb dX5_change_36 rfl (lv_at hl 1 rfl) ?_
          refine lv_imul hx hb dX5_change_37 ?_
          refine xtop (show ((nI 3) * (nI (k))) = nI (3 * k) from pk_mul 3 k) ?_
          refine lv_iconst (v := nI 1) hx hb dX5_change_38 (by decide) ?_
          refine lv_iadd hx hb dX5_change_39 ?_
          refine xtop (show ((nI (3 * k)) + (nI 1)) = nI ((3 * k) + 1) from nI_add (3 * k) 1) ?_
          refine va_iald hx hb hK (xP1 (hX1.t21)) 0 0 rfl rfl (i := nI ((3 * k) + 1)) (vp_in_nI (n := (3 * k) + 1) (by omega) (by omega)) dX5_change_40 ?_
          refine xtop (show ((fun z => g1 21 (z)) (nI ((3 * k) + 1)).toNatClampNeg) = nI (s0) from by rw [nI_clamp (n := 3 * k + 1) (by omega)]; exact hat.2.1.trans hs1) ?_
          refine lv_aload_n hx hb dX5_change_41 rfl (lv_at hl 2 rfl) ?_
          refine va_get (D := D) (ci := 6) (v := .ref (b 11)) (C := RX5) (T := TX5) (N := 17) hx hb hts qi_X5 hown hK (xP1 (hX1.main)) 0 rfl rfl 14 (by decide) (hts _ q_fl_X5_40) (fun _ h9 => h9) rfl dX5_change_42 ?_
          refine lv_iconst (v := nI 3) hx hb dX5_change_45 (by decide) ?_
          refine lv_iload_n hx hb dX5_change_46 rfl (lv_at hl 1 rfl) ?_
          refine lv_imul hx hb dX5_change_47 ?_
          refine xtop (show ((nI 3) * (nI (k))) = nI (3 * k) from pk_mul 3 k) ?_
          refine lv_iconst (v := nI 2) hx hb dX5_change_48 (by decide) ?_
          refine lv_iadd hx hb dX5_change_49 ?_
          refine xtop (show ((nI (3 * k)) + (nI 2)) = nI ((3 * k) + 2) from nI_add (3 * k) 2) ?_
          refine va_iald hx hb hK (xP1 (hX1.t21)) 0 0 rfl rfl (i := nI ((3 * k) + 2)) (vp_in_nI (n := (3 * k) + 2) (by omega) (by omega)) dX5_change_50 ?_
          refine xtop (show ((fun z => g1 21 (z)) (nI ((3 * k) + 2)).toNatClampNeg) = g 12 k from by rw [nI_clamp (n := 3 * k + 2) (by omega)]; exact hat.2.2.1) ?_
          refine xiast (D := D) hx hb hK hS 0 (hX1.t6) (hA.a (show 7 < 14 by omega)) rfl (i := nI (s0)) (x := g 12 k) (vp_in_nI (n := s0) (by omega) (by omega)) dX5_change_51 (fun H4 locs hU hS => ?_)
          rw [nI_clamp (n := s0) (by omega)] at hU
          have hX5 := hX1.p6 hA hU
          obtain ⟨g5, hg5⟩ : ∃ z, z = va_up g1 6 (upd (g1 6) (s0) (g 12 k)) := ⟨_, rfl⟩
          rw [← hg5] at hX5
          refine lv_goto (tgt := 91) hx hb dX5_change_52 (by decide) ?_
          refine lv_iinc (v := nI (k + 1)) (lv' := [(2, .int (nI (k + 1))), (1, .int (nI (c1))), (0, .ref (b 0))]) hx hb dX5_change_91 hl (k := 1) rfl (nI_add k 1) (by decide) rfl (fun ls hl => ?_)
          refine lv_goto (tgt := 4) hx hb dX5_change_94 (by decide) ?_
          exact ih4 c1 (k + 1) g5 H4 locs _ (by omega) hX5 (by
              have z := chM_drop hM hd
              rw [hs1, cl_nI (by omega)] at z
              rw [hg5]
              exact z) hS (by omega) (lv_sub hl [1, 0, 2] rfl)
  exact LOOP4 _ 0 0 g s.heap [] _ (by omega) hX (chM_0 g) hS (Nat.lt_succ_self _) (lv_sub hl [1, 0, 2] rfl)
