/-! The model: the table of what is left (by p42.py) -/
theorem rs_step {g1 : Nat → Nat → Int32} {S a : Nat} {v : Int32} (ha : a ≤ 8) (hv : v = tw (wy g1) S a) (hr : ∀ S', S' < S → rsOK g1 S') (hw : ∀ a', a' < a → g1 22 (9 * S + a') = tw (wy g1) S a') : (∀ S', S' < S → rsOK (va_up g1 22 (upd (g1 22) (9 * S + a) v)) S') ∧ ∀ a', a' < a + 1 → va_up g1 22 (upd (g1 22) (9 * S + a) v) 22 (9 * S + a') = tw (wy (va_up g1 22 (upd (g1 22) (9 * S + a) v))) S a' := by
  have e : wy (va_up g1 22 (upd (g1 22) (9 * S + a) v)) = wy g1 := wy_c (up_ne (by omega))
  refine ⟨fun S' hS' a' ha' => ?_, fun a' ha' => ?_⟩
  · rw [e, up_eq, upd_ne (by omega)]
    exact hr S' hS' a' ha'
  · rw [e, up_eq]
    by_cases h : a' = a
    · rw [h, upd_eq, hv]
    · rw [upd_ne (by omega)]
      exact hw a' (by omega)
set_option maxHeartbeats 4000000 in
set_option maxRecDepth 100000 in
/-- model.tabulate(M) -/
theorem c_X5_tabulate (l : Launch) (D : va_G) (cA : Nat → ClassId) (e0 : Nat) (A : Nat → Prop) (H0 : Heap) (b : Nat → Nat) (g : Nat → Nat → Int32) (tt : Nat → Int64) (n np : Nat) (hX : yW D cA b g tt n np H0) (hA : yA A b n np) (M : Nat) (hM : M < 256) : Met l yX5_tabulate w_X5_tabulate ({ frames := 1, cells := 0, slots := 0, locals := 22 } : Room) (xPc D cA e0 A H0 [.ref (b 0), .int (nI (M))]) (xQv (fun h => ∃ gB, yW D cA b gB tt n np h ∧ (∀ t, t ≠ 22 → gB t = g t) ∧ rsAll gB M) A) 0 0 (A) := by
  refine Met.ofW (cc := cX5_tabulate) (maxL := 6) (ret := none) (by decide) rfl ?_
  intro p e s m args below meth c s₁ B hml hv
  obtain ⟨rfl, hH, hE⟩ := hv
  subst hH
  have hx := B.exec
  have hb := B.bytes
  have hr := B.returns
  have hts := hE.1.all ([.ref (b 0), .int (nI (M))] : List Value).toArray
  have hown : s.vm.findClass RX5 = some m.cls := findClass_of_methodNamed B.named
  have hlocks := B.notSynchronized
  have hK := hE.2.1
  have hS : va_S A s.heap s.heap [] := va_S.rf
  have hl := lv_entry ([.ref (b 0), .int (nI (M))]) (n := 6) (Nat.le_of_ble_eq_true rfl)
  rw [lg_entry_eq]
  generalize (lg_sl ([.ref (b 0), .int (nI (M))]) ++ List.replicate (6 - (lg_sl ([.ref (b 0), .int (nI (M))])).length) Slot.unset).toArray = ls at hl ⊢
  have hl : lv_has ls 6 [(0, .ref (b 0)), (1, .int (nI (M)))] := hl
  have hn8 := hA.2.2.1
  refine lv_iconst (v := nI 0) hx hb dX5_tabulate_0 (by decide) ?_
  refine lv_istore_n (lv' := [(2, .int (nI 0)), (0, .ref (b 0)), (1, .int (nI (M)))]) hx hb dX5_tabulate_1 rfl hl (by decide) rfl (fun ls hl => ?_)
  have LOOP2 : ∀ (n2 : Nat) (S : Nat) (g1 : Nat → Nat → Int32) (H : Heap) (locs : List Loc) (ls : Array Slot), (S ≤ M + 1) → (yW D cA b g1 tt n np H) → (∀ t, t ≠ 22 → g1 t = g t) → (∀ S', S' < S → rsOK g1 S') → va_S A s.heap H locs → (M + 1 - S) < n2 → lv_has ls 6 [(2, .int (nI (S))), (0, .ref (b 0)), (1, .int (nI (M)))] → W p l e (headSpec w_X5_tabulate ({ frames := 1, cells := 0, slots := 0, locals := 22 } : Room)).room s m ([.ref (b 0), .int (nI (M))] : List Value).toArray below meth c H locs 0 0 (MQ below (xQv (fun h => ∃ gB, yW D cA b gB tt n np h ∧ (∀ t, t ≠ 22 → gB t = g t) ∧ rsAll gB M) A) ([.ref (b 0), .int (nI (M))] : List Value).toArray s 0 0 (A)) (F0 m 2 ls []) := by
    intro n2
    induction n2 with
    | zero => intro S g1 H locs ls hSM hX1 hkA hrA hS hmeas hl; exact absurd hmeas (Nat.not_lt_zero _)
    | succ n2 ih2 =>
      intro S g1 H locs ls hSM hX1 hkA hrA hS hmeas hl
      refine lv_iload_n hx hb dX5_tabulate_2 rfl (lv_at hl 0 rfl) ?_
      refine lv_iload_n hx hb dX5_tabulate_3 rfl (lv_at hl 2 rfl) ?_
      refine lv_icmp_gt (tgt := 112) hx hb dX5_tabulate_4 (by decide) (fun c4 => ?_) (fun c4 => ?_)
      · have c4 : M < S := (nI_ltI (a := M) (b := S) (by omega) (by omega)).mp c4
        have hpost : (fun h => ∃ gB, yW D cA b gB tt n np h ∧ (∀ t, t ≠ 22 → gB t = g t) ∧ rsAll gB M) H := by
          exact ⟨g1, hX1, hkA, fun S' h => hrA S' (by omega)⟩
        refine W.widen (k := 0) (n := 0) (by omega) (by omega) ?_
        exact W.vret hx hb hr (fun t ht _ => ⟨⟨H, rfl, hpost, ht⟩, hS.F ht⟩) hS.2.2 dX5_tabulate_112
      · have c4 : ¬ (M < S) := fun z => c4 ((nI_ltI (a := M) (b := S) (by omega) (by omega)).mpr z)
        have hSt : S < 256 := by omega
        refine lv_iconst (v := nI 0) hx hb dX5_tabulate_7 (by decide) ?_
        refine lv_istore_n (lv' := [(3, .int (nI 0)), (2, .int (nI (S))), (0, .ref (b 0)), (1, .int (nI (M)))]) hx hb dX5_tabulate_8 rfl hl (by decide) rfl (fun ls hl => ?_)
        have LOOP9 : ∀ (n9 : Nat) (a : Nat) (gB : Nat → Nat → Int32) (H : Heap) (locs : List Loc) (ls : Array Slot), (a ≤ 9) → (yW D cA b gB tt n np H) → (∀ t, t ≠ 22 → gB t = g t) → (∀ S', S' < S → rsOK gB S') → (∀ a', a' < a → gB 22 (9 * S + a') = tw (wy gB) S a') → va_S A s.heap H locs → (9 - a) < n9 → lv_has ls 6 [(3, .int (nI (a))), (2, .int (nI (S))), (0, .ref (b 0)), (1, .int (nI (M)))] → W p l e (headSpec w_X5_tabulate ({ frames := 1, cells := 0, slots := 0, locals := 22 } : Room)).room s m ([.ref (b 0), .int (nI (M))] : List Value).toArray below meth c H locs 0 0 (MQ below (xQv (fun h => ∃ gB, yW D cA b gB tt n np h ∧ (∀ t, t ≠ 22 → gB t = g t) ∧ rsAll gB M) A) ([.ref (b 0), .int (nI (M))] : List Value).toArray s 0 0 (A)) (F0 m 9 ls []) := by
          intro n9
          induction n9 with
          | zero => intro a gB H locs ls ha9 hXB hkB hrB hrow hS hmeas hl; exact absurd hmeas (Nat.not_lt_zero _)
          | succ n9 ih9 =>
            intro a gB H locs ls ha9 hXB hkB hrB hrow hS hmeas hl
            refine lv_iload_n hx hb dX5_tabulate_9 rfl (lv_at hl 0 rfl) ?_
            refine lv_bipush (v := nI 8) hx hb dX5_tabulate_10 (by decide) ?_
            refine lv_icmp_gt (tgt := 106) hx hb dX5_tabulate_12 (by decide) (fun c12 => ?_) (fun c12 => ?_)
            · have c12 : 8 < a := (nI_ltI (a := 8) (b := a) (by omega) (by omega)).mp c12
              refine lv_iinc (v := nI (S + 1)) (lv' := [(2, .int (nI (S + 1))), (3, .int (nI (a))), (0, .ref (b 0)), (1, .int (nI (M)))]) hx hb dX5_tabulate_106 hl (k := 1) rfl (nI_add S 1) (by decide) rfl (fun ls hl => ?_)
              refine lv_goto (tgt := 2) hx hb dX5_tabulate_109 (by decide) ?_
              exact ih2 (S + 1) gB H locs _ (by omega) hXB hkB (fun S' h => by
                  by_cases hq : S' = S
                  · rw [hq]
                    exact fun a' ha' => hrow a' (by omega)
                  · exact hrB S' (by omega)) hS (by omega) (lv_sub hl [0, 2, 3] rfl)
            · have c12 : ¬ (8 < a) := fun z => c12 ((nI_ltI (a := 8) (b := a) (by omega) (by omega)).mpr z)
              refine lv_iload_n hx hb dX5_tabulate_15 rfl (lv_at hl 1 rfl) ?_
              refine lv_if_ne (tgt := 29) hx hb dX5_tabulate_16 (by decide) (fun c16 => ?_) (fun c16 => ?_)
              · have hS0 : S ≠ 0 := fun z => c16 (by rw [z]; rfl)
                refine lv_ldc (v := nI 2147483647) hx hb hown (hts _ q_ko_X5_109) dX5_tabulate_29 ?_
                obtain ⟨base, hbe⟩ : ∃ z, z = nI 2147483647 := ⟨_, rfl⟩
                rw [← hbe]
                have hbs : tbF base (fun m => wy gB a m + tw (wy gB) (S - 2 ^ m) m) S 8 = tw (wy gB) S a := by
                  rw [hbe]
                  exact tb_tw (wy gB) a hSt hS0
                refine lv_istore (lv' := [(4, .int (base)), (3, .int (nI (a))), (2, .int (nI (S))), (0, .ref (b 0)), (1, .int (nI (M)))]) hx hb dX5_tabulate_31 hl (by decide) rfl (fun ls hl => ?_)
                refine lv_iconst (v := nI 0) hx hb dX5_tabulate_33 (by decide) ?_
                refine lv_istore (lv' := [(5, .int (nI 0)), (4, .int (base)), (3, .int (nI (a))), (2, .int (nI (S))), (0, .ref (b 0)), (1, .int (nI (M)))]) hx hb dX5_tabulate_34 hl (by decide) rfl (fun ls hl => ?_)
                have LOOP36 : ∀ (n36 : Nat) (m0 : Nat) (acc : Int32) (ls : Array Slot), (m0 ≤ 8) → (acc = tbF base (fun m => wy gB a m + tw (wy gB) (S - 2 ^ m) m) S m0) → (8 - m0) < n36 → lv_has ls 6 [(5, .int (nI (m0))), (4, .int (acc)), (3, .int (nI (a))), (2, .int (nI (S))), (0, .ref (b 0)), (1, .int (nI (M)))] → W p l e (headSpec w_X5_tabulate ({ frames := 1, cells := 0, slots := 0, locals := 22 } : Room)).room s m ([.ref (b 0), .int (nI (M))] : List Value).toArray below meth c H locs 0 0 (MQ below (xQv (fun h => ∃ gB, yW D cA b gB tt n np h ∧ (∀ t, t ≠ 22 → gB t = g t) ∧ rsAll gB M) A) ([.ref (b 0), .int (nI (M))] : List Value).toArray s 0 0 (A)) (F0 m 36 ls []) := by
                  intro n36
                  induction n36 with
                  | zero => intro m0 acc ls hm hacc hmeas hl; exact absurd hmeas (Nat.not_lt_zero _)
                  | succ n36 ih36 =>
                    intro m0 acc ls hm hacc hmeas hl
                    refine lv_iload hx hb dX5_tabulate_36 (lv_at hl 0 rfl) ?_
                    refine lv_bipush (v := nI 8) hx hb dX5_tabulate_38 (by decide) ?_
                    refine lv_icmp_ge (tgt := 87) hx hb dX5_tabulate_40 (by decide) (fun c40 => ?_) (fun c40 => ?_)
                    · have c40 : 8 ≤ m0 := (nI_leI (a := 8) (b := m0) (by omega) (by omega)).mp c40
                      have hm8 : m0 = 8 := by omega
                      refine lv_aload_n hx hb dX5_tabulate_87 rfl (lv_at hl 4 rfl) ?_
                      refine va_get (D := D) (ci := 6) (v := .ref (b 13)) (C := RX5) (T := TX5) (N := 17) hx hb hts qi_X5 hown hK (xP1 (hXB.main)) 0 rfl rfl 16 (by decide) (hts _ q_fl_X5_47) (fun _ h9 => h9) rfl dX5_tabulate_88 ?_
                      refine lv_bipush (v := nI 9) hx hb dX5_tabulate_91 (by decide) ?_
                      refine lv_iload_n hx hb dX5_tabulate_93 rfl (lv_at hl 3 rfl) ?_
                      refine lv_imul hx hb dX5_tabulate_94 ?_
                      refine xtop (show ((nI 9) * (nI (S))) = nI (9 * S) from pk_mul 9 S) ?_
                      refine lv_iload_n hx hb dX5_tabulate_95 rfl (lv_at hl 2 rfl) ?_
                      refine lv_iadd hx hb dX5_tabulate_96 ?_
                      refine xtop (show ((nI (9 * S)) + (nI (a))) = nI ((9 * S) + a) from nI_add (9 * S) a) ?_
                      refine lv_iload hx hb dX5_tabulate_97 (lv_at hl 1 rfl) ?_
                      refine xiast (D := D) hx hb hK hS 0 (hXB.t22) (hA.a (show 13 < 14 by omega)) rfl (i := nI ((9 * S) + a)) (x := acc) (vp_in_nI (n := (9 * S) + a) (by omega) (by omega)) dX5_tabulate_99 (fun H1 locs hU hS => ?_)
                      rw [nI_clamp (n := (9 * S) + a) (by omega)] at hU
                      have hX2 := hXB.p22 hA hU
                      obtain ⟨g2, hg2⟩ : ∃ z, z = va_up gB 22 (upd (gB 22) ((9 * S) + a) (acc)) := ⟨_, rfl⟩
                      rw [← hg2] at hX2
                      refine lv_iinc (v := nI (a + 1)) (lv' := [(3, .int (nI (a + 1))), (5, .int (nI (m0))), (4, .int (acc)), (2, .int (nI (S))), (0, .ref (b 0)), (1, .int (nI (M)))]) hx hb dX5_tabulate_100 hl (k := 2) rfl (nI_add a 1) (by decide) rfl (fun ls hl => ?_)
                      refine lv_goto (tgt := 9) hx hb dX5_tabulate_103 (by decide) ?_
                      have hrs := rs_step (a := a) (by omega) (show acc = tw (wy gB) S a by rw [hacc, hm8, hbs]) hrB hrow
                      rw [← hg2] at hrs
                      exact ih9 (a + 1) g2 H1 locs _ (by omega) hX2 (fun t ht => by rw [hg2, up_ne ht]; exact hkB t ht) hrs.1 hrs.2 hS (by omega) (lv_sub hl [0, 3, 4, 5] rfl)
                    · have c40 : ¬ (8 ≤ m0) := fun z => c40 ((nI_leI (a := 8) (b := m0) (by omega) (by omega)).mpr z)
                      refine lv_iload_n hx hb dX5_tabulate_43 rfl (lv_at hl 3 rfl) ?_
                      refine lv_iload hx hb dX5_tabulate_44 (lv_at hl 0 rfl) ?_
                      refine xcRi (va_runS (As := [.int (nI (S)), .int (nI (m0))]) (rest := []) ⟨hx, hb, hml, hown, hts⟩ (c_X5_has l D cA e0 A H S m0 hSt (by omega)) ⟨(callB_of 2 hts gi_X5_has rfl rfl rfl (hts _ q_ini_X5) (hts _ q_ml_X5_110) hd_X5_has ⟨Nat.le_of_ble_eq_true rfl, Nat.le_of_ble_eq_true rfl⟩), hts _ q_st_X5_has⟩ (xpS hE hS) rfl rfl hl.1 rfl (lv_room (Nat.le_of_ble_eq_true rfl)) dX5_tabulate_46 ⟨Nat.le_of_ble_eq_true rfl, Nat.le_of_ble_eq_true rfl⟩) ?_
                      refine lv_if_eq (tgt := 81) hx hb dX5_tabulate_49 (by decide) (fun c49 => ?_) (fun c49 => ?_)
                      · have hbit : ¬ S.testBit m0 = true := fun z => by rw [if_pos z] at c49; exact absurd c49 (by decide)
                        refine lv_iinc (v := nI (m0 + 1)) (lv' := [(5, .int (nI (m0 + 1))), (4, .int (acc)), (3, .int (nI (a))), (2, .int (nI (S))), (0, .ref (b 0)), (1, .int (nI (M)))]) hx hb dX5_tabulate_81 hl (k := 0) rfl (nI_add m0 1) (by decide) rfl (fun ls hl => ?_)
                        refine lv_goto (tgt := 36) hx hb dX5_tabulate_84 (by decide) ?_
                        exact ih36 (m0 + 1) (acc) _ (by omega) (by rw [tb_no hbit]; exact hacc) (by omega) (lv_sub hl [0, 1, 2, 3, 4, 5] rfl)
                      · have hbit : S.testBit m0 = true := by
                          cases hq : S.testBit m0 with
                          | true => rfl
                          | false => rw [hq] at c49; exact absurd rfl c49
                        have hle := bit_le hbit
                        have hp2 := Nat.two_pow_pos m0
                        refine lv_iload hx hb dX5_tabulate_52 (lv_at hl 1 rfl) ?_
                        refine lv_aload_n hx hb dX5_tabulate_54 rfl (lv_at hl 4 rfl) ?_
                        refine lv_iload_n hx hb dX5_tabulate_55 rfl (lv_at hl 2 rfl) ?_
                        refine lv_iload hx hb dX5_tabulate_56 (lv_at hl 0 rfl) ?_
                        refine xcRi (va_runV (As := [.int (nI (a)), .int (nI (m0))]) (rest := [.int (acc)]) ⟨hx, hb, hml, hown, hts⟩ (c_X5_way l D cA e0 A H b gB tt n np hXB a m0 (by omega) (by omega)) ⟨(callB_of 2 hts gi_X5_way rfl rfl rfl (hts _ q_ini_X5) (hts _ q_ml_X5_70) hd_X5_way ⟨Nat.le_of_ble_eq_true rfl, Nat.le_of_ble_eq_true rfl⟩), hts _ q_im_X5_way, hts _ q_sel_X5_X5_way⟩ (xpV hE hS (hXB.main) rfl) rfl rfl hl.1 rfl (lv_room (Nat.le_of_ble_eq_true rfl)) dX5_tabulate_58 ⟨Nat.le_of_ble_eq_true rfl, Nat.le_of_ble_eq_true rfl⟩) ?_
                        refine lv_aload_n hx hb dX5_tabulate_61 rfl (lv_at hl 4 rfl) ?_
                        refine lv_iload_n hx hb dX5_tabulate_62 rfl (lv_at hl 3 rfl) ?_
                        refine lv_iconst (v := nI 1) hx hb dX5_tabulate_63 (by decide) ?_
                        refine lv_iload hx hb dX5_tabulate_64 (lv_at hl 0 rfl) ?_
                        refine lv_ishl hx hb dX5_tabulate_66 ?_
                        refine lv_iconst (v := (-1)) hx hb dX5_tabulate_67 (by decide) ?_
                        refine lv_ixor hx hb dX5_tabulate_68 ?_
                        refine lv_iand hx hb dX5_tabulate_69 ?_
                        refine xtop (show ((nI (S)) &&& (((nI 1) <<< (nI (m0) &&& 31)) ^^^ ((-1)))) = nI (S - 2 ^ m0) from p_wo S hSt m0 (by omega) hbit) ?_
                        refine lv_iload hx hb dX5_tabulate_70 (lv_at hl 0 rfl) ?_
                        refine xcRi (va_runV (As := [.int (nI (S - 2 ^ m0)), .int (nI (m0))]) (rest := [.int (wy gB a m0), .int (acc)]) ⟨hx, hb, hml, hown, hts⟩ (c_X5_restOf l D cA e0 A H b gB tt n np hXB (S - 2 ^ m0) m0 (by omega) (by omega)) ⟨(callB_of 2 hts gi_X5_restOf rfl rfl rfl (hts _ q_ini_X5) (hts _ q_ml_X5_113) hd_X5_restOf ⟨Nat.le_of_ble_eq_true rfl, Nat.le_of_ble_eq_true rfl⟩), hts _ q_im_X5_restOf, hts _ q_sel_X5_X5_restOf⟩ (xpV hE hS (hXB.main) rfl) rfl rfl hl.1 rfl (lv_room (Nat.le_of_ble_eq_true rfl)) dX5_tabulate_72 ⟨Nat.le_of_ble_eq_true rfl, Nat.le_of_ble_eq_true rfl⟩) ?_
                        refine xtop (show (gB 22 (9 * (S - 2 ^ m0) + m0)) = tw (wy gB) (S - 2 ^ m0) m0 from hrB _ (by omega) m0 (by omega)) ?_
                        refine lv_iadd hx hb dX5_tabulate_75 ?_
                        refine va_mmin hx hb (hml.trans hl.1.symm) hown (hts _ q_ml_X5_78) (hts _ q_st_J9_min_7cf53) (hts _ q_ini_J9) (hts _ q_co_min) (Nat.le_of_ble_eq_true rfl) (Nat.le_of_ble_eq_true rfl) (Nat.le_of_ble_eq_true rfl) (Nat.le_of_ble_eq_true rfl) dX5_tabulate_76 ?_
                        refine xtop (show (if (wy gB a m0) + (tw (wy gB) (S - 2 ^ m0) m0) < acc then (wy gB a m0) + (tw (wy gB) (S - 2 ^ m0) m0) else acc) = mnI acc ((wy gB a m0) + (tw (wy gB) (S - 2 ^ m0) m0)) from rfl) ?_
                        refine lv_istore (lv' := [(4, .int (mnI acc ((wy gB a m0) + (tw (wy gB) (S - 2 ^ m0) m0)))), (5, .int (nI (m0))), (3, .int (nI (a))), (2, .int (nI (S))), (0, .ref (b 0)), (1, .int (nI (M)))]) hx hb dX5_tabulate_79 hl (by decide) rfl (fun ls hl => ?_)
                        refine lv_iinc (v := nI (m0 + 1)) (lv' := [(5, .int (nI (m0 + 1))), (4, .int (mnI acc ((wy gB a m0) + (tw (wy gB) (S - 2 ^ m0) m0)))), (3, .int (nI (a))), (2, .int (nI (S))), (0, .ref (b 0)), (1, .int (nI (M)))]) hx hb dX5_tabulate_81 hl (k := 1) rfl (nI_add m0 1) (by decide) rfl (fun ls hl => ?_)
                        refine lv_goto (tgt := 36) hx hb dX5_tabulate_84 (by decide) ?_
                        exact ih36 (m0 + 1) (mnI acc ((wy gB a m0) + (tw (wy gB) (S - 2 ^ m0) m0))) _ (by omega) (by rw [tb_yes hbit, hacc]) (by omega) (lv_sub hl [0, 1, 2, 3, 4, 5] rfl)
                exact LOOP36 _ 0 base _ (by omega) rfl (Nat.lt_succ_self _) (lv_sub hl [0, 1, 2, 3, 4, 5] rfl)
              · have hS0 : S = 0 := nI_inj (a := S) (b := 0) (by omega) (by omega) c16
                refine lv_aload_n hx hb dX5_tabulate_19 rfl (lv_at hl 2 rfl) ?_
                refine lv_iload_n hx hb dX5_tabulate_20 rfl (lv_at hl 0 rfl) ?_
                refine lv_bipush (v := nI 8) hx hb dX5_tabulate_21 (by decide) ?_
                refine xcRi (va_runV (As := [.int (nI (a)), .int (nI 8)]) (rest := []) ⟨hx, hb, hml, hown, hts⟩ (c_X5_way l D cA e0 A H b gB tt n np hXB a 8 (by omega) (by omega)) ⟨(callB_of 2 hts gi_X5_way rfl rfl rfl (hts _ q_ini_X5) (hts _ q_ml_X5_70) hd_X5_way ⟨Nat.le_of_ble_eq_true rfl, Nat.le_of_ble_eq_true rfl⟩), hts _ q_im_X5_way, hts _ q_sel_X5_X5_way⟩ (xpV hE hS (hXB.main) rfl) rfl rfl hl.1 rfl (lv_room (Nat.le_of_ble_eq_true rfl)) dX5_tabulate_23 ⟨Nat.le_of_ble_eq_true rfl, Nat.le_of_ble_eq_true rfl⟩) ?_
                refine lv_goto (tgt := 31) hx hb dX5_tabulate_26 (by decide) ?_
                obtain ⟨base, hbe⟩ : ∃ z, z = wy gB a 8 := ⟨_, rfl⟩
                rw [← hbe]
                have hbs : tbF base (fun m => wy gB a m + tw (wy gB) (S - 2 ^ m) m) S 8 = tw (wy gB) S a := by
                  rw [hbe]
                  rw [hS0, tb_0, tw_0]
                refine lv_istore (lv' := [(4, .int (base)), (3, .int (nI (a))), (2, .int (nI (S))), (0, .ref (b 0)), (1, .int (nI (M)))]) hx hb dX5_tabulate_31 hl (by decide) rfl (fun ls hl => ?_)
                refine lv_iconst (v := nI 0) hx hb dX5_tabulate_33 (by decide) ?_
                refine lv_istore (lv' := [(5, .int (nI 0)), (4, .int (base)), (3, .int (nI (a))), (2, .int (nI (S))), (0, .ref (b 0)), (1, .int (nI (M)))]) hx hb dX5_tabulate_34 hl (by decide) rfl (fun ls hl => ?_)
                have LOOP36 : ∀ (n36 : Nat) (m0 : Nat) (acc : Int32) (ls : Array Slot), (m0 ≤ 8) → (acc = tbF base (fun m => wy gB a m + tw (wy gB) (S - 2 ^ m) m) S m0) → (8 - m0) < n36 → lv_has ls 6 [(5, .int (nI (m0))), (4, .int (acc)), (3, .int (nI (a))), (2, .int (nI (S))), (0, .ref (b 0)), (1, .int (nI (M)))] → W p l e (headSpec w_X5_tabulate ({ frames := 1, cells := 0, slots := 0, locals := 22 } : Room)).room s m ([.ref (b 0), .int (nI (M))] : List Value).toArray below meth c H locs 0 0 (MQ below (xQv (fun h => ∃ gB, yW D cA b gB tt n np h ∧ (∀ t, t ≠ 22 → gB t = g t) ∧ rsAll gB M) A) ([.ref (b 0), .int (nI (M))] : List Value).toArray s 0 0 (A)) (F0 m 36 ls []) := by
                  intro n36
                  induction n36 with
                  | zero => intro m0 acc ls hm hacc hmeas hl; exact absurd hmeas (Nat.not_lt_zero _)
                  | succ n36 ih36 =>
                    intro m0 acc ls hm hacc hmeas hl
                    refine lv_iload hx hb dX5_tabulate_36 (lv_at hl 0 rfl) ?_
                    refine lv_bipush (v := nI 8) hx hb dX5_tabulate_38 (by decide) ?_
                    refine lv_icmp_ge (tgt := 87) hx hb dX5_tabulate_40 (by decide) (fun c40 => ?_) (fun c40 => ?_)
                    · have c40 : 8 ≤ m0 := (nI_leI (a := 8) (b := m0) (by omega) (by omega)).mp c40
                      have hm8 : m0 = 8 := by omega
                      refine lv_aload_n hx hb dX5_tabulate_87 rfl (lv_at hl 4 rfl) ?_
                      refine va_get (D := D) (ci := 6) (v := .ref (b 13)) (C := RX5) (T := TX5) (N := 17) hx hb hts qi_X5 hown hK (xP1 (hXB.main)) 0 rfl rfl 16 (by decide) (hts _ q_fl_X5_47) (fun _ h9 => h9) rfl dX5_tabulate_88 ?_
                      refine lv_bipush (v := nI 9) hx hb dX5_tabulate_91 (by decide) ?_
                      refine lv_iload_n hx hb dX5_tabulate_93 rfl (lv_at hl 3 rfl) ?_
                      refine lv_imul hx hb dX5_tabulate_94 ?_
                      refine xtop (show ((nI 9) * (nI (S))) = nI (9 * S) from pk_mul 9 S) ?_
                      refine lv_iload_n hx hb dX5_tabulate_95 rfl (lv_at hl 2 rfl) ?_
                      refine lv_iadd hx hb dX5_tabulate_96 ?_
                      refine xtop (show ((nI (9 * S)) + (nI (a))) = nI ((9 * S) + a) from nI_add (9 * S) a) ?_
                      refine lv_iload hx hb dX5_tabulate_97 (lv_at hl 1 rfl) ?_
                      refine xiast (D := D) hx hb hK hS 0 (hXB.t22) (hA.a (show 13 < 14 by omega)) rfl (i := nI ((9 * S) + a)) (x := acc) (vp_in_nI (n := (9 * S) + a) (by omega) (by omega)) dX5_tabulate_99 (fun H3 locs hU hS => ?_)
                      rw [nI_clamp (n := (9 * S) + a) (by omega)] at hU
                      have hX4 := hXB.p22 hA hU
                      obtain ⟨g4, hg4⟩ : ∃ z, z = va_up gB 22 (upd (gB 22) ((9 * S) + a) (acc)) := ⟨_, rfl⟩
                      rw [← hg4] at hX4
                      refine lv_iinc (v := nI (a + 1)) (lv' := [(3, .int (nI (a + 1))), (5, .int (nI (m0))), (4, .int (acc)), (2, .int (nI (S))), (0, .ref (b 0)), (1, .int (nI (M)))]) hx hb dX5_tabulate_100 hl (k := 2) rfl (nI_add a 1) (by decide) rfl (fun ls hl => ?_)
                      refine lv_goto (tgt := 9) hx hb dX5_tabulate_103 (by decide) ?_
                      have hrs := rs_step (a := a) (by omega) (show acc = tw (wy gB) S a by rw [hacc, hm8, hbs]) hrB hrow
                      rw [← hg4] at hrs
                      exact ih9 (a + 1) g4 H3 locs _ (by omega) hX4 (fun t ht => by rw [hg4, up_ne ht]; exact hkB t ht) hrs.1 hrs.2 hS (by omega) (lv_sub hl [0, 3, 4, 5] rfl)
                    · have c40 : ¬ (8 ≤ m0) := fun z => c40 ((nI_leI (a := 8) (b := m0) (by omega) (by omega)).mpr z)
                      refine lv_iload_n hx hb dX5_tabulate_43 rfl (lv_at hl 3 rfl) ?_
                      refine lv_iload hx hb dX5_tabulate_44 (lv_at hl 0 rfl) ?_
                      refine xcRi (va_runS (As := [.int (nI (S)), .int (nI (m0))]) (rest := []) ⟨hx, hb, hml, hown, hts⟩ (c_X5_has l D cA e0 A H S m0 hSt (by omega)) ⟨(callB_of 2 hts gi_X5_has rfl rfl rfl (hts _ q_ini_X5) (hts _ q_ml_X5_110) hd_X5_has ⟨Nat.le_of_ble_eq_true rfl, Nat.le_of_ble_eq_true rfl⟩), hts _ q_st_X5_has⟩ (xpS hE hS) rfl rfl hl.1 rfl (lv_room (Nat.le_of_ble_eq_true rfl)) dX5_tabulate_46 ⟨Nat.le_of_ble_eq_true rfl, Nat.le_of_ble_eq_true rfl⟩) ?_
                      refine lv_if_eq (tgt := 81) hx hb dX5_tabulate_49 (by decide) (fun c49 => ?_) (fun c49 => ?_)
                      · have hbit : ¬ S.testBit m0 = true := fun z => by rw [if_pos z] at c49; exact absurd c49 (by decide)
                        refine lv_iinc (v := nI (m0 + 1)) (lv' := [(5, .int (nI (m0 + 1))), (4, .int (acc)), (3, .int (nI (a))), (2, .int (nI (S))), (0, .ref (b 0)), (1, .int (nI (M)))]) hx hb dX5_tabulate_81 hl (k := 0) rfl (nI_add m0 1) (by decide) rfl (fun ls hl => ?_)
                        refine lv_goto (tgt := 36) hx hb dX5_tabulate_84 (by decide) ?_
                        exact ih36 (m0 + 1) (acc) _ (by omega) (by rw [tb_no hbit]; exact hacc) (by omega) (lv_sub hl [0, 1, 2, 3, 4, 5] rfl)
                      · have hbit : S.testBit m0 = true := by
                          cases hq : S.testBit m0 with
                          | true => rfl
                          | false => rw [hq] at c49; exact absurd rfl c49
                        have hle := bit_le hbit
                        have hp2 := Nat.two_pow_pos m0
                        refine lv_iload hx hb dX5_tabulate_52 (lv_at hl 1 rfl) ?_
                        refine lv_aload_n hx hb dX5_tabulate_54 rfl (lv_at hl 4 rfl) ?_
                        refine lv_iload_n hx hb dX5_tabulate_55 rfl (lv_at hl 2 rfl) ?_
                        refine lv_iload hx hb dX5_tabulate_56 (lv_at hl 0 rfl) ?_
                        refine xcRi (va_runV (As := [.int (nI (a)), .int (nI (m0))]) (rest := [.int (acc)]) ⟨hx, hb, hml, hown, hts⟩ (c_X5_way l D cA e0 A H b gB tt n np hXB a m0 (by omega) (by omega)) ⟨(callB_of 2 hts gi_X5_way rfl rfl rfl (hts _ q_ini_X5) (hts _ q_ml_X5_70) hd_X5_way ⟨Nat.le_of_ble_eq_true rfl, Nat.le_of_ble_eq_true rfl⟩), hts _ q_im_X5_way, hts _ q_sel_X5_X5_way⟩ (xpV hE hS (hXB.main) rfl) rfl rfl hl.1 rfl (lv_room (Nat.le_of_ble_eq_true rfl)) dX5_tabulate_58 ⟨Nat.le_of_ble_eq_true rfl, Nat.le_of_ble_eq_true rfl⟩) ?_
                        refine lv_aload_n hx hb dX5_tabulate_61 rfl (lv_at hl 4 rfl) ?_
                        refine lv_iload_n hx hb dX5_tabulate_62 rfl (lv_at hl 3 rfl) ?_
                        refine lv_iconst (v := nI 1) hx hb dX5_tabulate_63 (by decide) ?_
                        refine lv_iload hx hb dX5_tabulate_64 (lv_at hl 0 rfl) ?_
                        refine lv_ishl hx hb dX5_tabulate_66 ?_
                        refine lv_iconst (v := (-1)) hx hb dX5_tabulate_67 (by decide) ?_
                        refine lv_ixor hx hb dX5_tabulate_68 ?_
                        refine lv_iand hx hb dX5_tabulate_69 ?_
                        refine xtop (show ((nI (S)) &&& (((nI 1) <<< (nI (m0) &&& 31)) ^^^ ((-1)))) = nI (S - 2 ^ m0) from p_wo S hSt m0 (by omega) hbit) ?_
                        refine lv_iload hx hb dX5_tabulate_70 (lv_at hl 0 rfl) ?_
                        refine xcRi (va_runV (As := [.int (nI (S - 2 ^ m0)), .int (nI (m0))]) (rest := [.int (wy gB a m0), .int (acc)]) ⟨hx, hb, hml, hown, hts⟩ (c_X5_restOf l D cA e0 A H b gB tt n np hXB (S - 2 ^ m0) m0 (by omega) (by omega)) ⟨(callB_of 2 hts gi_X5_restOf rfl rfl rfl (hts _ q_ini_X5) (hts _ q_ml_X5_113) hd_X5_restOf ⟨Nat.le_of_ble_eq_true rfl, Nat.le_of_ble_eq_true rfl⟩), hts _ q_im_X5_restOf, hts _ q_sel_X5_X5_restOf⟩ (xpV hE hS (hXB.main) rfl) rfl rfl hl.1 rfl (lv_room (Nat.le_of_ble_eq_true rfl)) dX5_tabulate_72 ⟨Nat.le_of_ble_eq_true rfl, Nat.le_of_ble_eq_true rfl⟩) ?_
                        refine xtop (show (gB 22 (9 * (S - 2 ^ m0) + m0)) = tw (wy gB) (S - 2 ^ m0) m0 from hrB _ (by omega) m0 (by omega)) ?_
                        refine lv_iadd hx hb dX5_tabulate_75 ?_
                        refine va_mmin hx hb (hml.trans hl.1.symm) hown (hts _ q_ml_X5_78) (hts _ q_st_J9_min_7cf53) (hts _ q_ini_J9) (hts _ q_co_min) (Nat.le_of_ble_eq_true rfl) (Nat.le_of_ble_eq_true rfl) (Nat.le_of_ble_eq_true rfl) (Nat.le_of_ble_eq_true rfl) dX5_tabulate_76 ?_
                        refine xtop (show (if (wy gB a m0) + (tw (wy gB) (S - 2 ^ m0) m0) < acc then (wy gB a m0) + (tw (wy gB) (S - 2 ^ m0) m0) else acc) = mnI acc ((wy gB a m0) + (tw (wy gB) (S - 2 ^ m0) m0)) from rfl) ?_
                        refine lv_istore (lv' := [(4, .int (mnI acc ((wy gB a m0) + (tw (wy gB) (S - 2 ^ m0) m0)))), (5, .int (nI (m0))), (3, .int (nI (a))), (2, .int (nI (S))), (0, .ref (b 0)), (1, .int (nI (M)))]) hx hb dX5_tabulate_79 hl (by decide) rfl (fun ls hl => ?_)
                        refine lv_iinc (v := nI (m0 + 1)) (lv' := [(5, .int (nI (m0 + 1))), (4, .int (mnI acc ((wy gB a m0) + (tw (wy gB) (S - 2 ^ m0) m0)))), (3, .int (nI (a))), (2, .int (nI (S))), (0, .ref (b 0)), (1, .int (nI (M)))]) hx hb dX5_tabulate_81 hl (k := 1) rfl (nI_add m0 1) (by decide) rfl (fun ls hl => ?_)
                        refine lv_goto (tgt := 36) hx hb dX5_tabulate_84 (by decide) ?_
                        exact ih36 (m0 + 1) (mnI acc ((wy gB a m0) + (tw (wy gB) (S - 2 ^ m0) m0))) _ (by omega) (by rw [tb_yes hbit, hacc]) (by omega) (lv_sub hl [0, 1, 2, 3, 4, 5] rfl)
                exact LOOP36 _ 0 base _ (by omega) rfl (Nat.lt_succ_self _) (lv_sub hl [0, 1, 2, 3, 4, 5] rfl)
        exact LOOP9 _ 0 g1 H locs _ (by omega) hX1 hkA hrA (fun a' h => absurd h (Nat.not_lt_zero _)) hS (Nat.lt_succ_self _) (lv_sub hl [0, 1, 2, 3] rfl)
  exact LOOP2 _ 0 g s.heap [] _ (by omega) hX (fun _ _ => rfl) (fun S' h => absurd h (Nat.not_lt_zero _)) hS (Nat.lt_succ_self _) (lv_sub hl [0, 1, 2] rfl)
