/-! The model: the order of a round, the best round (by p54.py) -/
theorem vs_z (w : Nat → Nat → Int32) {S n k : Nat} (hn : n ≤ 8) (hS : S < 2 ^ n) (hk : k ≤ bc S) : (vs w S k).1 = 0 ↔ k = bc S := by
  obtain ⟨h1, h2⟩ := vs_ok w hn hS k hk
  have hp := pow256 hn
  refine ⟨fun z => ?_, fun z => p_bc0 _ (by omega) (by omega)⟩
  rw [z] at h2
  have h0 : bc 0 = 0 := by decide
  omega
theorem vs_8 (w : Nat → Nat → Int32) {S n k : Nat} (hn : n ≤ 8) (hS : S < 2 ^ n) (hk : k ≤ bc S) : (vs w S k).2 ≤ 8 := by
  rcases k with _ | k
  · exact Nat.le_refl 8
  · have h := (vs_next w hn hS (k := k) (by omega)).2.2.1
    omega
theorem lkF_c {g g2 : Nat → Nat → Int32} {k : Nat} (h : eqY g g2 k) (S : Nat) : lkF g2 S = lkF g S := by
  unfold lkF
  rw [show lackF g2 = lackF g from funext fun i => lackF_c (h.1 4 (by omega) (by omega)) (h.1 5 (by omega) (by omega)) i]
theorem gnF_c {g g2 : Nat → Nat → Int32} {k : Nat} (h : eqY g g2 k) (S : Nat) : gnF g2 S = gnF g S := by
  unfold gnF
  rw [show gainF g2 = gainF g from funext fun i => gainF_c (h.1 1 (by omega) (by omega)) (h.1 4 (by omega) (by omega)) (h.1 5 (by omega) (by omega)) (h.1 6 (by omega) (by omega)) i]
theorem bsF_c {g g2 : Nat → Nat → Int32} (hr : ∀ S, rtF g2 S = rtF g S) (hl : ∀ S, lkF g2 S = lkF g S) (hg : ∀ S, gnF g2 S = gnF g S) (lim load : Int32) : ∀ k, bsF g2 lim load k = bsF g lim load k
  | 0 => rfl
  | k + 1 => by
    have ih := bsF_c hr hl hg lim load k
    show (if (rtF g2 (k + 1) ≤ lim ∧ lkF g2 (k + 1) ≤ load) ∧ ((bsF g2 lim load k).2.1 < gnF g2 (k + 1) ∨ (gnF g2 (k + 1) = (bsF g2 lim load k).2.1 ∧ rtF g2 (k + 1) < (bsF g2 lim load k).2.2)) then (k + 1, gnF g2 (k + 1), rtF g2 (k + 1)) else bsF g2 lim load k) = (if (rtF g (k + 1) ≤ lim ∧ lkF g (k + 1) ≤ load) ∧ ((bsF g lim load k).2.1 < gnF g (k + 1) ∨ (gnF g (k + 1) = (bsF g lim load k).2.1 ∧ rtF g (k + 1) < (bsF g lim load k).2.2)) then (k + 1, gnF g (k + 1), rtF g (k + 1)) else bsF g lim load k)
    rw [hr, hl, hg, ih]
theorem nlt_ne {a b : Int32} (h1 : ¬ a < b) (h2 : ¬ a = b) : b < a := by
  rw [i_lt] at h1
  rw [i_eq] at h2
  rw [i_lt]
  omega
theorem no_lt {a b : Int32} {P : Prop} (h : a < b) (z : b < a ∨ (a = b ∧ P)) : False := by
  rw [i_lt] at h
  rcases z with q | ⟨q, -⟩
  · rw [i_lt] at q
    omega
  · rw [i_eq] at q
    omega
theorem no_eq {a b : Int32} {P : Prop} (h : a = b) (hP : ¬ P) (z : b < a ∨ (a = b ∧ P)) : False := by
  rw [i_eq] at h
  rcases z with q | ⟨-, q⟩
  · rw [i_lt] at q
    omega
  · exact hP q
set_option maxHeartbeats 4000000 in
set_option maxRecDepth 100000 in
/-- model.visit -/
theorem c_X5_visit (l : Launch) (D : va_G) (cA : Nat → ClassId) (e0 : Nat) (A : Nat → Prop) (H0 : Heap) (b : Nat → Nat) (g : Nat → Nat → Int32) (tt : Nat → Int64) (n np : Nat) (hX : yW D cA b g tt n np H0) (hA : yA A b n np) (v x : Int32) : Met l yX5_visit w_X5_visit ({ frames := 2, cells := 0, slots := 0, locals := 47 } : Room) (xPc D cA e0 A H0 [.ref (b 0), .int (v), .int (x)]) (xQi (fun r h => ((okT n v ∧ okV v x) ∧ r = nI (vs (wy g) (cl v) (cl x + 1)).2 ∧ ∃ g2, yW D cA b g2 tt n np h ∧ eqY g g2 0) ∨ (¬ okT n v ∧ yW D cA b (thG g 1) tt n np h) ∨ (okT n v ∧ ¬ okV v x ∧ yW D cA b (thG g 2) tt n np h)) A) 0 0 (A) := by
  refine Met.ofW (cc := cX5_visit) (maxL := 6) (ret := (some .int)) (by decide) rfl ?_
  intro p e s m args below meth c s₁ B hml hv
  obtain ⟨rfl, hH, hE⟩ := hv
  subst hH
  have hx := B.exec
  have hb := B.bytes
  have hr := B.returns
  have hts := hE.1.all ([.ref (b 0), .int (v), .int (x)] : List Value).toArray
  have hown : s.vm.findClass RX5 = some m.cls := findClass_of_methodNamed B.named
  have hlocks := B.notSynchronized
  have hK := hE.2.1
  have hS : va_S A s.heap s.heap [] := va_S.rf
  have hl := lv_entry ([.ref (b 0), .int (v), .int (x)]) (n := 6) (Nat.le_of_ble_eq_true rfl)
  rw [lg_entry_eq]
  generalize (lg_sl ([.ref (b 0), .int (v), .int (x)]) ++ List.replicate (6 - (lg_sl ([.ref (b 0), .int (v), .int (x)])).length) Slot.unset).toArray = ls at hl ⊢
  have hl : lv_has ls 6 [(0, .ref (b 0)), (1, .int (v)), (2, .int (x))] := hl
  have hn8 := hA.2.2.1
  have h256 := pow256 hn8
  refine lv_aload_n hx hb dX5_visit_0 rfl (lv_at hl 0 rfl) ?_
  refine lv_iconst (v := nI 0) hx hb dX5_visit_1 (by decide) ?_
  refine xput (D := D) (ci := 6) (v := .int (nI 0)) (C := RX5) (T := TX5) (N := 17) hx hb hts qi_X5 tyX5 tyX5_ok nmX5 hown hK hS (hX.main) (hA.a (show 0 < 14 by omega)) rfl 0 (by decide) (hts _ q_fl_X5_50) (fun _ h9 => h9) rfl (tyX5_ok 0 (by decide)) rfl rfl (Nat.le_of_ble_eq_true rfl) dX5_visit_2 (fun H1 locs hU hS => ?_)
  obtain ⟨g1, hg1⟩ : ∃ z, z = thG g 0 := ⟨_, rfl⟩
  have hX1 : yW D cA b g1 tt n np H1 := by rw [hg1]; exact hX.pthr hA hU
  refine lv_aload_n hx hb dX5_visit_5 rfl (lv_at hl 0 rfl) ?_
  refine lv_iload_n hx hb dX5_visit_6 rfl (lv_at hl 1 rfl) ?_
  refine xcRi (va_runV (As := [.int (v)]) (rest := []) ⟨hx, hb, hml, hown, hts⟩ (c_X5_areMachines l D cA e0 A H1 b g1 tt n np hX1 hn8 v) ⟨(callB_of 1 hts gi_X5_areMachines rfl rfl rfl (hts _ q_ini_X5) (hts _ q_ml_X5_116) hd_X5_areMachines ⟨Nat.le_of_ble_eq_true rfl, Nat.le_of_ble_eq_true rfl⟩), hts _ q_im_X5_areMachines, hts _ q_sel_X5_X5_areMachines⟩ (xpV hE hS (hX1.main) rfl) rfl rfl hl.1 rfl (lv_room (Nat.le_of_ble_eq_true rfl)) dX5_visit_7 ⟨Nat.le_of_ble_eq_true rfl, Nat.le_of_ble_eq_true rfl⟩) ?_
  refine lv_if_ne (tgt := 19) hx hb dX5_visit_10 (by decide) (fun c10 => ?_) (fun c10 => ?_)
  · obtain ⟨S, hS2, rfl⟩ := (okT_k hn8).mp (Decidable.byContradiction (fun z => c10 (in_0.mpr z)))
    have hSt : S < 256 := Nat.lt_of_lt_of_le hS2 (pow256 hn8)
    have hb8 := bc_le S hSt
    refine lv_iload_n hx hb dX5_visit_19 rfl (lv_at hl 2 rfl) ?_
    refine lv_iconst (v := nI 0) hx hb dX5_visit_20 (by decide) ?_
    refine lv_iload_n hx hb dX5_visit_21 rfl (lv_at hl 1 rfl) ?_
    refine xcRi (va_runS (As := [.int (nI (S))]) (rest := [.int (nI 0), .int (x)]) ⟨hx, hb, hml, hown, hts⟩ (c_J6_bitCount_0f7a4 l D cA e0 A H1 S hSt) ⟨(callB_of 1 hts gi_J6_bitCount_0f7a4 rfl rfl rfl (hts _ q_ini_J6) (hts _ q_ml_X5_123) hd_J6_bitCount_0f7a4 ⟨Nat.le_of_ble_eq_true rfl, Nat.le_of_ble_eq_true rfl⟩), hts _ q_st_J6_bitCount_0f7a4⟩ (xpS hE hS) rfl rfl hl.1 rfl (lv_room (Nat.le_of_ble_eq_true rfl)) dX5_visit_22 ⟨Nat.le_of_ble_eq_true rfl, Nat.le_of_ble_eq_true rfl⟩) ?_
    refine lv_iconst (v := nI 1) hx hb dX5_visit_25 (by decide) ?_
    refine lv_isub hx hb dX5_visit_26 ?_
    refine xcRi (va_runS (As := [.int (x), .int (nI 0), .int ((nI (bc S)) - (nI 1))]) (rest := []) ⟨hx, hb, hml, hown, hts⟩ (c_X5_isIn l D cA e0 A H1 x (nI 0) ((nI (bc S)) - (nI 1))) ⟨(callB_of 3 hts gi_X5_isIn rfl rfl rfl (hts _ q_ini_X5) (hts _ q_ml_X5_57) hd_X5_isIn ⟨Nat.le_of_ble_eq_true rfl, Nat.le_of_ble_eq_true rfl⟩), hts _ q_st_X5_isIn⟩ (xpS hE hS) rfl rfl hl.1 rfl (lv_room (Nat.le_of_ble_eq_true rfl)) dX5_visit_27 ⟨Nat.le_of_ble_eq_true rfl, Nat.le_of_ble_eq_true rfl⟩) ?_
    refine lv_if_ne (tgt := 39) hx hb dX5_visit_30 (by decide) (fun c30 => ?_) (fun c30 => ?_)
    · obtain ⟨j0, hj0, rfl⟩ := (ou_m (n := bc S) (by omega)).mp (Decidable.byContradiction (fun z => c30 (in_0.mpr z)))
      refine lv_aload_n hx hb dX5_visit_39 rfl (lv_at hl 0 rfl) ?_
      refine lv_iload_n hx hb dX5_visit_40 rfl (lv_at hl 1 rfl) ?_
      refine xcv (va_runV (As := [.int (nI (S))]) (rest := []) ⟨hx, hb, hml, hown, hts⟩ (c_X5_tabulate l D cA e0 A H1 b g1 tt n np hX1 hA S hSt) ⟨(callB_of 1 hts gi_X5_tabulate rfl rfl rfl (hts _ q_ini_X5) (hts _ q_ml_X5_119) hd_X5_tabulate ⟨Nat.le_of_ble_eq_true rfl, Nat.le_of_ble_eq_true rfl⟩), hts _ q_im_X5_tabulate, hts _ q_sel_X5_X5_tabulate⟩ (xpV hE hS (hX1.main) rfl) rfl rfl hl.1 rfl (lv_room (Nat.le_of_ble_eq_true rfl)) dX5_visit_41 ⟨Nat.le_of_ble_eq_true rfl, Nat.le_of_ble_eq_true rfl⟩) hS (fun q h => h) (fun H2 locs hP9 hz9 hk9 hS => ?_)
      obtain ⟨gB, hXB, hkB, hrB⟩ := hP9
      have heB : eqY g gB 0 := eqY_22 (by rw [hg1]; exact eqY_th g 0) hkB
      have hwB : wy gB = wy g := wy_c (heB.1 3 (by omega) (by omega))
      refine lv_iload_n hx hb dX5_visit_44 rfl (lv_at hl 1 rfl) ?_
      refine lv_istore_n (lv' := [(3, .int (nI (S))), (0, .ref (b 0)), (1, .int (nI (S))), (2, .int (nI (j0)))]) hx hb dX5_visit_45 rfl hl (by decide) rfl (fun ls hl => ?_)
      refine lv_bipush (v := nI 8) hx hb dX5_visit_46 (by decide) ?_
      refine lv_istore (lv' := [(4, .int (nI 8)), (3, .int (nI (S))), (0, .ref (b 0)), (1, .int (nI (S))), (2, .int (nI (j0)))]) hx hb dX5_visit_48 hl (by decide) rfl (fun ls hl => ?_)
      refine lv_iconst (v := nI 0) hx hb dX5_visit_50 (by decide) ?_
      refine lv_istore (lv' := [(5, .int (nI 0)), (4, .int (nI 8)), (3, .int (nI (S))), (0, .ref (b 0)), (1, .int (nI (S))), (2, .int (nI (j0)))]) hx hb dX5_visit_51 hl (by decide) rfl (fun ls hl => ?_)
      have LOOP53 : ∀ (n53 : Nat) (k : Nat) (ls : Array Slot), (k ≤ j0 + 1) → (j0 + 1 - k) < n53 → lv_has ls 6 [(5, .int (nI (k))), (4, .int (nI ((vs (wy gB) S k).2))), (3, .int (nI ((vs (wy gB) S k).1))), (2, .int (nI (j0))), (0, .ref (b 0)), (1, .int (nI (S)))] → W p l e (headSpec w_X5_visit ({ frames := 2, cells := 0, slots := 0, locals := 47 } : Room)).room s m ([.ref (b 0), .int ((nI S)), .int ((nI j0))] : List Value).toArray below meth c H2 locs (0 + 0) (0 + 0) (MQ below (xQi (fun r h => ((okT n (nI S) ∧ okV (nI S) (nI j0)) ∧ r = nI (vs (wy g) (cl (nI S)) (cl (nI j0) + 1)).2 ∧ ∃ g2, yW D cA b g2 tt n np h ∧ eqY g g2 0) ∨ (¬ okT n (nI S) ∧ yW D cA b (thG g 1) tt n np h) ∨ (okT n (nI S) ∧ ¬ okV (nI S) (nI j0) ∧ yW D cA b (thG g 2) tt n np h)) A) ([.ref (b 0), .int ((nI S)), .int ((nI j0))] : List Value).toArray s 0 0 (A)) (F0 m 53 ls []) := by
        intro n53
        induction n53 with
        | zero => intro k ls hk hmeas hl; exact absurd hmeas (Nat.not_lt_zero _)
        | succ n53 ih53 =>
          intro k ls hk hmeas hl
          refine lv_iload hx hb dX5_visit_53 (lv_at hl 0 rfl) ?_
          refine lv_iload_n hx hb dX5_visit_55 rfl (lv_at hl 3 rfl) ?_
          refine lv_icmp_gt (tgt := 83) hx hb dX5_visit_56 (by decide) (fun c56 => ?_) (fun c56 => ?_)
          · have c56 : j0 < k := (nI_ltI (a := j0) (b := k) (by omega) (by omega)).mp c56
            have hkj : k = j0 + 1 := by omega
            refine lv_iload hx hb dX5_visit_83 (lv_at hl 1 rfl) ?_
            have hpost : (fun r h => ((okT n (nI S) ∧ okV (nI S) (nI j0)) ∧ r = nI (vs (wy g) (cl (nI S)) (cl (nI j0) + 1)).2 ∧ ∃ g2, yW D cA b g2 tt n np h ∧ eqY g g2 0) ∨ (¬ okT n (nI S) ∧ yW D cA b (thG g 1) tt n np h) ∨ (okT n (nI S) ∧ ¬ okV (nI S) (nI j0) ∧ yW D cA b (thG g 2) tt n np h)) (nI ((vs (wy gB) S k).2)) H2 := by
              have e1 : cl (nI S) = S := cl_nI (by omega)
              have e2 : cl (nI j0) = j0 := cl_nI (by omega)
              exact Or.inl ⟨⟨⟨S, hS2, rfl⟩, j0, by rw [e1]; exact hj0, rfl⟩, by rw [e1, e2, ← hwB, hkj], gB, hXB, heB⟩
            refine W.widen (k := 0) (n := 0) (by omega) (by omega) ?_
            exact W.iret (v := (nI ((vs (wy gB) S k).2))) hx hb hr (fun t ht _ => ⟨⟨(nI ((vs (wy gB) S k).2)), H2, rfl, hpost, ht⟩, hS.F ht⟩) hS.2.2 dX5_visit_85
          · have c56 : ¬ (j0 < k) := fun z => c56 ((nI_ltI (a := j0) (b := k) (by omega) (by omega)).mpr z)
            have hkb : k < bc S := by omega
            obtain ⟨v1, v2, v3, v4⟩ := vs_next (wy gB) hn8 hS2 hkb
            have hv8 := vs_8 (wy gB) hn8 hS2 (k := k) (by omega)
            have hvle := (vs_ok (wy gB) hn8 hS2 k (by omega)).1
            refine lv_aload_n hx hb dX5_visit_59 rfl (lv_at hl 4 rfl) ?_
            refine lv_iload_n hx hb dX5_visit_60 rfl (lv_at hl 2 rfl) ?_
            refine lv_iload hx hb dX5_visit_61 (lv_at hl 1 rfl) ?_
            refine xcRi (va_runV (As := [.int (nI ((vs (wy gB) S k).1)), .int (nI ((vs (wy gB) S k).2))]) (rest := []) ⟨hx, hb, hml, hown, hts⟩ (c_X5_nextOf l D cA e0 A H2 b gB tt n np hXB (vs (wy gB) S k).1 (vs (wy gB) S k).2 (Nat.lt_of_lt_of_le v1 h256) v2 hv8 (fun S9 h9 => hrB S9 (Nat.le_trans h9 hvle))) ⟨(callB_of 2 hts gi_X5_nextOf rfl rfl rfl (hts _ q_ini_X5) (hts _ q_ml_X5_126) hd_X5_nextOf ⟨Nat.le_of_ble_eq_true rfl, Nat.le_of_ble_eq_true rfl⟩), hts _ q_im_X5_nextOf, hts _ q_sel_X5_X5_nextOf⟩ (xpV hE hS (hXB.main) rfl) rfl rfl hl.1 rfl (lv_room (Nat.le_of_ble_eq_true rfl)) dX5_visit_63 ⟨Nat.le_of_ble_eq_true rfl, Nat.le_of_ble_eq_true rfl⟩) ?_
            refine xtop (show (nI (nx (wy gB) (vs (wy gB) S k).1 (vs (wy gB) S k).2)) = nI ((vs (wy gB) S (k + 1)).2) from rfl) ?_
            refine lv_istore (lv' := [(4, .int (nI ((vs (wy gB) S (k + 1)).2))), (5, .int (nI (k))), (3, .int (nI ((vs (wy gB) S k).1))), (2, .int (nI (j0))), (0, .ref (b 0)), (1, .int (nI (S)))]) hx hb dX5_visit_66 hl (by decide) rfl (fun ls hl => ?_)
            refine lv_iload_n hx hb dX5_visit_68 rfl (lv_at hl 2 rfl) ?_
            refine lv_iconst (v := nI 1) hx hb dX5_visit_69 (by decide) ?_
            refine lv_iload hx hb dX5_visit_70 (lv_at hl 0 rfl) ?_
            refine lv_ishl hx hb dX5_visit_72 ?_
            refine lv_iconst (v := (-1)) hx hb dX5_visit_73 (by decide) ?_
            refine lv_ixor hx hb dX5_visit_74 ?_
            refine lv_iand hx hb dX5_visit_75 ?_
            refine xtop (show ((nI ((vs (wy gB) S k).1)) &&& (((nI 1) <<< (nI ((vs (wy gB) S (k + 1)).2) &&& 31)) ^^^ ((-1)))) = nI ((vs (wy gB) S (k + 1)).1) from p_wo _ (by omega) _ (by omega) v4) ?_
            refine lv_istore_n (lv' := [(3, .int (nI ((vs (wy gB) S (k + 1)).1))), (4, .int (nI ((vs (wy gB) S (k + 1)).2))), (5, .int (nI (k))), (2, .int (nI (j0))), (0, .ref (b 0)), (1, .int (nI (S)))]) hx hb dX5_visit_76 rfl hl (by decide) rfl (fun ls hl => ?_)
            refine lv_iinc (v := nI (k + 1)) (lv' := [(5, .int (nI (k + 1))), (3, .int (nI ((vs (wy gB) S (k + 1)).1))), (4, .int (nI ((vs (wy gB) S (k + 1)).2))), (2, .int (nI (j0))), (0, .ref (b 0)), (1, .int (nI (S)))]) hx hb dX5_visit_77 hl (k := 2) rfl (nI_add k 1) (by decide) rfl (fun ls hl => ?_)
            refine lv_goto (tgt := 53) hx hb dX5_visit_80 (by decide) ?_
            exact ih53 (k + 1) _ (by omega) (by omega) (lv_sub hl [0, 2, 1, 3, 4, 5] rfl)
      exact LOOP53 _ 0 _ (by omega) (Nat.lt_succ_self _) (lv_sub hl [0, 1, 2, 5, 3, 4] rfl)
    · refine lv_aload_n hx hb dX5_visit_33 rfl (lv_at hl 0 rfl) ?_
      refine lv_iconst (v := nI 2) hx hb dX5_visit_34 (by decide) ?_
      refine xci (va_runV (As := [.int (nI 2)]) (rest := []) ⟨hx, hb, hml, hown, hts⟩ (c_X5_fail l D cA e0 A H1 b g1 tt n np hX1 hA (nI 2)) ⟨(callB_of 1 hts gi_X5_fail rfl rfl rfl (hts _ q_ini_X5) (hts _ q_ml_X5_66) hd_X5_fail ⟨Nat.le_of_ble_eq_true rfl, Nat.le_of_ble_eq_true rfl⟩), hts _ q_im_X5_fail, hts _ q_sel_X5_X5_fail⟩ (xpV hE hS (hX1.main) rfl) rfl rfl hl.1 rfl (lv_room (Nat.le_of_ble_eq_true rfl)) dX5_visit_35 ⟨Nat.le_of_ble_eq_true rfl, Nat.le_of_ble_eq_true rfl⟩) hS (fun q h => h) (fun r_3 H3 locs hP9 hz9 hk9 hS => ?_)
      obtain ⟨hr9, hXf⟩ := hP9
      have hXf : yW D cA b (thG g 2) tt n np H3 := by rw [← thG_2 g 0 2, ← hg1]; exact hXf
      have hpost : (fun r h => ((okT n (nI S) ∧ okV (nI S) x) ∧ r = nI (vs (wy g) (cl (nI S)) (cl x + 1)).2 ∧ ∃ g2, yW D cA b g2 tt n np h ∧ eqY g g2 0) ∨ (¬ okT n (nI S) ∧ yW D cA b (thG g 1) tt n np h) ∨ (okT n (nI S) ∧ ¬ okV (nI S) x ∧ yW D cA b (thG g 2) tt n np h)) (r_3) H3 := by
        exact Or.inr (Or.inr ⟨⟨S, hS2, rfl⟩, fun z => (in_0.mp c30) ((ou_m (by omega)).mpr (by unfold okV at z; rw [cl_nI (by omega)] at z; exact z)), hXf⟩)
      refine W.widen (k := 0) (n := 0) (by omega) (by omega) ?_
      exact W.iret (v := r_3) hx hb hr (fun t ht _ => ⟨⟨r_3, H3, rfl, hpost, ht⟩, hS.F ht⟩) hS.2.2 dX5_visit_38
  · refine lv_aload_n hx hb dX5_visit_13 rfl (lv_at hl 0 rfl) ?_
    refine lv_iconst (v := nI 1) hx hb dX5_visit_14 (by decide) ?_
    refine xci (va_runV (As := [.int (nI 1)]) (rest := []) ⟨hx, hb, hml, hown, hts⟩ (c_X5_fail l D cA e0 A H1 b g1 tt n np hX1 hA (nI 1)) ⟨(callB_of 1 hts gi_X5_fail rfl rfl rfl (hts _ q_ini_X5) (hts _ q_ml_X5_66) hd_X5_fail ⟨Nat.le_of_ble_eq_true rfl, Nat.le_of_ble_eq_true rfl⟩), hts _ q_im_X5_fail, hts _ q_sel_X5_X5_fail⟩ (xpV hE hS (hX1.main) rfl) rfl rfl hl.1 rfl (lv_room (Nat.le_of_ble_eq_true rfl)) dX5_visit_15 ⟨Nat.le_of_ble_eq_true rfl, Nat.le_of_ble_eq_true rfl⟩) hS (fun q h => h) (fun r_4 H4 locs hP9 hz9 hk9 hS => ?_)
    obtain ⟨hr9, hXf⟩ := hP9
    have hXf : yW D cA b (thG g 1) tt n np H4 := by rw [← thG_2 g 0 1, ← hg1]; exact hXf
    have hpost : (fun r h => ((okT n v ∧ okV v x) ∧ r = nI (vs (wy g) (cl v) (cl x + 1)).2 ∧ ∃ g2, yW D cA b g2 tt n np h ∧ eqY g g2 0) ∨ (¬ okT n v ∧ yW D cA b (thG g 1) tt n np h) ∨ (okT n v ∧ ¬ okV v x ∧ yW D cA b (thG g 2) tt n np h)) (r_4) H4 := by
      exact Or.inr (Or.inl ⟨fun z => (in_0.mp c10) ((okT_k hn8).mpr z), hXf⟩)
    refine W.widen (k := 0) (n := 0) (by omega) (by omega) ?_
    exact W.iret (v := r_4) hx hb hr (fun t ht _ => ⟨⟨r_4, H4, rfl, hpost, ht⟩, hS.F ht⟩) hS.2.2 dX5_visit_18
set_option maxHeartbeats 4000000 in
set_option maxRecDepth 100000 in
/-- model.best -/
theorem c_X5_best (l : Launch) (D : va_G) (cA : Nat → ClassId) (e0 : Nat) (A : Nat → Prop) (H0 : Heap) (b : Nat → Nat) (g : Nat → Nat → Int32) (tt : Nat → Int64) (n np : Nat) (hX : yW D cA b g tt n np H0) (hA : yA A b n np) (v x : Int32) : Met l yX5_best w_X5_best ({ frames := 2, cells := 0, slots := 0, locals := 47 } : Room) (xPc D cA e0 A H0 [.ref (b 0), .int (v), .int (x)]) (xQi (fun r h => ((okR 0 5000 v ∧ okR 0 2000 x) ∧ r = nI (bsF g v x (2 ^ n - 1)).1 ∧ ∃ g2, yW D cA b g2 tt n np h ∧ eqY g g2 0) ∨ (¬ (okR 0 5000 v ∧ okR 0 2000 x) ∧ yW D cA b (thG g 1) tt n np h)) A) 0 0 (A) := by
  refine Met.ofW (cc := cX5_best) (maxL := 11) (ret := (some .int)) (by decide) rfl ?_
  intro p e s m args below meth c s₁ B hml hv
  obtain ⟨rfl, hH, hE⟩ := hv
  subst hH
  have hx := B.exec
  have hb := B.bytes
  have hr := B.returns
  have hts := hE.1.all ([.ref (b 0), .int (v), .int (x)] : List Value).toArray
  have hown : s.vm.findClass RX5 = some m.cls := findClass_of_methodNamed B.named
  have hlocks := B.notSynchronized
  have hK := hE.2.1
  have hS : va_S A s.heap s.heap [] := va_S.rf
  have hl := lv_entry ([.ref (b 0), .int (v), .int (x)]) (n := 11) (Nat.le_of_ble_eq_true rfl)
  rw [lg_entry_eq]
  generalize (lg_sl ([.ref (b 0), .int (v), .int (x)]) ++ List.replicate (11 - (lg_sl ([.ref (b 0), .int (v), .int (x)])).length) Slot.unset).toArray = ls at hl ⊢
  have hl : lv_has ls 11 [(0, .ref (b 0)), (1, .int (v)), (2, .int (x))] := hl
  have hn8 := hA.2.2.1
  have h256 := pow256 hn8
  have hpp := Nat.two_pow_pos n
  refine lv_aload_n hx hb dX5_best_0 rfl (lv_at hl 0 rfl) ?_
  refine lv_iconst (v := nI 0) hx hb dX5_best_1 (by decide) ?_
  refine xput (D := D) (ci := 6) (v := .int (nI 0)) (C := RX5) (T := TX5) (N := 17) hx hb hts qi_X5 tyX5 tyX5_ok nmX5 hown hK hS (hX.main) (hA.a (show 0 < 14 by omega)) rfl 0 (by decide) (hts _ q_fl_X5_50) (fun _ h9 => h9) rfl (tyX5_ok 0 (by decide)) rfl rfl (Nat.le_of_ble_eq_true rfl) dX5_best_2 (fun H1 locs hU hS => ?_)
  obtain ⟨g1, hg1⟩ : ∃ z, z = thG g 0 := ⟨_, rfl⟩
  have hX1 : yW D cA b g1 tt n np H1 := by rw [hg1]; exact hX.pthr hA hU
  refine lv_iload_n hx hb dX5_best_5 rfl (lv_at hl 1 rfl) ?_
  refine lv_iconst (v := nI 0) hx hb dX5_best_6 (by decide) ?_
  refine lv_sipush (v := nI 5000) hx hb dX5_best_7 (by decide) ?_
  refine xcRi (va_runS (As := [.int (v), .int (nI 0), .int (nI 5000)]) (rest := []) ⟨hx, hb, hml, hown, hts⟩ (c_X5_isIn l D cA e0 A H1 v (nI 0) (nI 5000)) ⟨(callB_of 3 hts gi_X5_isIn rfl rfl rfl (hts _ q_ini_X5) (hts _ q_ml_X5_57) hd_X5_isIn ⟨Nat.le_of_ble_eq_true rfl, Nat.le_of_ble_eq_true rfl⟩), hts _ q_st_X5_isIn⟩ (xpS hE hS) rfl rfl hl.1 rfl (lv_room (Nat.le_of_ble_eq_true rfl)) dX5_best_10 ⟨Nat.le_of_ble_eq_true rfl, Nat.le_of_ble_eq_true rfl⟩) ?_
  refine lv_if_eq (tgt := 27) hx hb dX5_best_13 (by decide) (fun c13 => ?_) (fun c13 => ?_)
  · refine lv_aload_n hx hb dX5_best_27 rfl (lv_at hl 0 rfl) ?_
    refine lv_iconst (v := nI 1) hx hb dX5_best_28 (by decide) ?_
    refine xci (va_runV (As := [.int (nI 1)]) (rest := []) ⟨hx, hb, hml, hown, hts⟩ (c_X5_fail l D cA e0 A H1 b g1 tt n np hX1 hA (nI 1)) ⟨(callB_of 1 hts gi_X5_fail rfl rfl rfl (hts _ q_ini_X5) (hts _ q_ml_X5_66) hd_X5_fail ⟨Nat.le_of_ble_eq_true rfl, Nat.le_of_ble_eq_true rfl⟩), hts _ q_im_X5_fail, hts _ q_sel_X5_X5_fail⟩ (xpV hE hS (hX1.main) rfl) rfl rfl hl.1 rfl (lv_room (Nat.le_of_ble_eq_true rfl)) dX5_best_29 ⟨Nat.le_of_ble_eq_true rfl, Nat.le_of_ble_eq_true rfl⟩) hS (fun q h => h) (fun r_2 H2 locs hP9 hz9 hk9 hS => ?_)
    obtain ⟨hr9, hXf⟩ := hP9
    have hXf : yW D cA b (thG g 1) tt n np H2 := by rw [← thG_2 g 0 1, ← hg1]; exact hXf
    have hpost : (fun r h => ((okR 0 5000 v ∧ okR 0 2000 x) ∧ r = nI (bsF g v x (2 ^ n - 1)).1 ∧ ∃ g2, yW D cA b g2 tt n np h ∧ eqY g g2 0) ∨ (¬ (okR 0 5000 v ∧ okR 0 2000 x) ∧ yW D cA b (thG g 1) tt n np h)) (r_2) H2 := by
      exact Or.inr ⟨fun z => (in_0.mp c13) ((ou_r (a := 0) (b := 5000) (by omega) (by omega)).mpr z.1), hXf⟩
    refine W.widen (k := 0) (n := 0) (by omega) (by omega) ?_
    exact W.iret (v := r_2) hx hb hr (fun t ht _ => ⟨⟨r_2, H2, rfl, hpost, ht⟩, hS.F ht⟩) hS.2.2 dX5_best_32
  · refine lv_iload_n hx hb dX5_best_16 rfl (lv_at hl 2 rfl) ?_
    refine lv_iconst (v := nI 0) hx hb dX5_best_17 (by decide) ?_
    refine lv_sipush (v := nI 2000) hx hb dX5_best_18 (by decide) ?_
    refine xcRi (va_runS (As := [.int (x), .int (nI 0), .int (nI 2000)]) (rest := []) ⟨hx, hb, hml, hown, hts⟩ (c_X5_isIn l D cA e0 A H1 x (nI 0) (nI 2000)) ⟨(callB_of 3 hts gi_X5_isIn rfl rfl rfl (hts _ q_ini_X5) (hts _ q_ml_X5_57) hd_X5_isIn ⟨Nat.le_of_ble_eq_true rfl, Nat.le_of_ble_eq_true rfl⟩), hts _ q_st_X5_isIn⟩ (xpS hE hS) rfl rfl hl.1 rfl (lv_room (Nat.le_of_ble_eq_true rfl)) dX5_best_21 ⟨Nat.le_of_ble_eq_true rfl, Nat.le_of_ble_eq_true rfl⟩) ?_
    refine lv_if_ne (tgt := 33) hx hb dX5_best_24 (by decide) (fun c24 => ?_) (fun c24 => ?_)
    · refine lv_iconst (v := nI 1) hx hb dX5_best_33 (by decide) ?_
      refine lv_aload_n hx hb dX5_best_34 rfl (lv_at hl 0 rfl) ?_
      refine va_get (D := D) (ci := 6) (v := .int (nI (n))) (C := RX5) (T := TX5) (N := 17) hx hb hts qi_X5 hown hK (xP1 (hX1.main)) 0 rfl rfl 2 (by decide) (hts _ q_fl_X5_54) (fun _ h9 => h9) rfl dX5_best_35 ?_
      refine lv_ishl hx hb dX5_best_38 ?_
      refine xtop (show ((nI 1) <<< (nI (n) &&& 31)) = nI (2 ^ n) from p_pw n (by omega)) ?_
      refine lv_iconst (v := nI 1) hx hb dX5_best_39 (by decide) ?_
      refine lv_isub hx hb dX5_best_40 ?_
      refine xtop (show ((nI (2 ^ n)) - (nI 1)) = nI (2 ^ n - 1) from p_p1 n (by omega)) ?_
      refine lv_istore_n (lv' := [(3, .int (nI (2 ^ n - 1))), (0, .ref (b 0)), (1, .int (v)), (2, .int (x))]) hx hb dX5_best_41 rfl hl (by decide) rfl (fun ls hl => ?_)
      refine lv_aload_n hx hb dX5_best_42 rfl (lv_at hl 1 rfl) ?_
      refine lv_iload_n hx hb dX5_best_43 rfl (lv_at hl 0 rfl) ?_
      refine xcv (va_runV (As := [.int (nI (2 ^ n - 1))]) (rest := []) ⟨hx, hb, hml, hown, hts⟩ (c_X5_tabulate l D cA e0 A H1 b g1 tt n np hX1 hA (2 ^ n - 1) (by omega)) ⟨(callB_of 1 hts gi_X5_tabulate rfl rfl rfl (hts _ q_ini_X5) (hts _ q_ml_X5_119) hd_X5_tabulate ⟨Nat.le_of_ble_eq_true rfl, Nat.le_of_ble_eq_true rfl⟩), hts _ q_im_X5_tabulate, hts _ q_sel_X5_X5_tabulate⟩ (xpV hE hS (hX1.main) rfl) rfl rfl hl.1 rfl (lv_room (Nat.le_of_ble_eq_true rfl)) dX5_best_44 ⟨Nat.le_of_ble_eq_true rfl, Nat.le_of_ble_eq_true rfl⟩) hS (fun q h => h) (fun H3 locs hP9 hz9 hk9 hS => ?_)
      obtain ⟨gB, hXB, hkB, hrB⟩ := hP9
      have heB : eqY g gB 0 := eqY_22 (by rw [hg1]; exact eqY_th g 0) hkB
      have hwB : wy gB = wy g := wy_c (heB.1 3 (by omega) (by omega))
      refine lv_iconst (v := nI 0) hx hb dX5_best_47 (by decide) ?_
      refine lv_istore (lv' := [(4, .int (nI 0)), (3, .int (nI (2 ^ n - 1))), (0, .ref (b 0)), (1, .int (v)), (2, .int (x))]) hx hb dX5_best_48 hl (by decide) rfl (fun ls hl => ?_)
      refine lv_iconst (v := nI 0) hx hb dX5_best_50 (by decide) ?_
      refine lv_istore (lv' := [(5, .int (nI 0)), (4, .int (nI 0)), (3, .int (nI (2 ^ n - 1))), (0, .ref (b 0)), (1, .int (v)), (2, .int (x))]) hx hb dX5_best_51 hl (by decide) rfl (fun ls hl => ?_)
      refine lv_iconst (v := nI 0) hx hb dX5_best_53 (by decide) ?_
      refine lv_istore (lv' := [(6, .int (nI 0)), (5, .int (nI 0)), (4, .int (nI 0)), (3, .int (nI (2 ^ n - 1))), (0, .ref (b 0)), (1, .int (v)), (2, .int (x))]) hx hb dX5_best_54 hl (by decide) rfl (fun ls hl => ?_)
      refine lv_iconst (v := nI 1) hx hb dX5_best_56 (by decide) ?_
      refine lv_istore (lv' := [(7, .int (nI 1)), (6, .int (nI 0)), (5, .int (nI 0)), (4, .int (nI 0)), (3, .int (nI (2 ^ n - 1))), (0, .ref (b 0)), (1, .int (v)), (2, .int (x))]) hx hb dX5_best_57 hl (by decide) rfl (fun ls hl => ?_)
      have LOOP59 : ∀ (n59 : Nat) (k : Nat) (b1 : Nat) (bg : Int32) (bt : Int32) (ls : Array Slot), (k + 1 ≤ 2 ^ n) → (bsF gB v x k = (b1, bg, bt)) → (2 ^ n - k) < n59 → lv_has ls 11 [(7, .int (nI (k + 1))), (6, .int (bt)), (5, .int (bg)), (4, .int (nI (b1))), (3, .int (nI (2 ^ n - 1))), (0, .ref (b 0)), (1, .int (v)), (2, .int (x))] → W p l e (headSpec w_X5_best ({ frames := 2, cells := 0, slots := 0, locals := 47 } : Room)).room s m ([.ref (b 0), .int (v), .int (x)] : List Value).toArray below meth c H3 locs (0 + 0) (0 + 0) (MQ below (xQi (fun r h => ((okR 0 5000 v ∧ okR 0 2000 x) ∧ r = nI (bsF g v x (2 ^ n - 1)).1 ∧ ∃ g2, yW D cA b g2 tt n np h ∧ eqY g g2 0) ∨ (¬ (okR 0 5000 v ∧ okR 0 2000 x) ∧ yW D cA b (thG g 1) tt n np h)) A) ([.ref (b 0), .int (v), .int (x)] : List Value).toArray s 0 0 (A)) (F0 m 59 ls []) := by
        intro n59
        induction n59 with
        | zero => intro k b1 bg bt ls hk hbs hmeas hl; exact absurd hmeas (Nat.not_lt_zero _)
        | succ n59 ih59 =>
          intro k b1 bg bt ls hk hbs hmeas hl
          refine lv_iload hx hb dX5_best_59 (lv_at hl 0 rfl) ?_
          refine lv_iload_n hx hb dX5_best_61 rfl (lv_at hl 4 rfl) ?_
          refine lv_icmp_gt (tgt := 186) hx hb dX5_best_62 (by decide) (fun c62 => ?_) (fun c62 => ?_)
          · have c62 : (2 ^ n - 1) < (k + 1) := (nI_ltI (a := 2 ^ n - 1) (b := k + 1) (by omega) (by omega)).mp c62
            have hS8 : 2 ^ n - 1 = k := by omega
            refine lv_iload hx hb dX5_best_186 (lv_at hl 3 rfl) ?_
            have hpost : (fun r h => ((okR 0 5000 v ∧ okR 0 2000 x) ∧ r = nI (bsF g v x (2 ^ n - 1)).1 ∧ ∃ g2, yW D cA b g2 tt n np h ∧ eqY g g2 0) ∨ (¬ (okR 0 5000 v ∧ okR 0 2000 x) ∧ yW D cA b (thG g 1) tt n np h)) (nI (b1)) H3 := by
              exact Or.inl ⟨⟨(ou_r (a := 0) (b := 5000) (by omega) (by omega)).mp (Decidable.byContradiction (fun z => c13 (in_0.mpr z))), (ou_r (a := 0) (b := 2000) (by omega) (by omega)).mp (Decidable.byContradiction (fun z => c24 (in_0.mpr z)))⟩, by rw [hS8, ← bsF_c (rtF_c heB) (lkF_c heB) (gnF_c heB) v x k, hbs], gB, hXB, heB⟩
            refine W.widen (k := 0) (n := 0) (by omega) (by omega) ?_
            exact W.iret (v := (nI (b1))) hx hb hr (fun t ht _ => ⟨⟨(nI (b1)), H3, rfl, hpost, ht⟩, hS.F ht⟩) hS.2.2 dX5_best_188
          · have c62 : ¬ ((2 ^ n - 1) < (k + 1)) := fun z => c62 ((nI_ltI (a := 2 ^ n - 1) (b := k + 1) (by omega) (by omega)).mpr z)
            have hS7 : k + 1 < 2 ^ n := by omega
            have hS6 : k + 1 < 256 := by omega
            refine lv_iconst (v := nI 0) hx hb dX5_best_65 (by decide) ?_
            refine lv_istore (lv' := [(8, .int (nI 0)), (7, .int (nI (k + 1))), (6, .int (bt)), (5, .int (bg)), (4, .int (nI (b1))), (3, .int (nI (2 ^ n - 1))), (0, .ref (b 0)), (1, .int (v)), (2, .int (x))]) hx hb dX5_best_66 hl (by decide) rfl (fun ls hl => ?_)
            refine lv_iconst (v := nI 0) hx hb dX5_best_68 (by decide) ?_
            refine lv_istore (lv' := [(9, .int (nI 0)), (8, .int (nI 0)), (7, .int (nI (k + 1))), (6, .int (bt)), (5, .int (bg)), (4, .int (nI (b1))), (3, .int (nI (2 ^ n - 1))), (0, .ref (b 0)), (1, .int (v)), (2, .int (x))]) hx hb dX5_best_69 hl (by decide) rfl (fun ls hl => ?_)
            refine lv_iconst (v := nI 0) hx hb dX5_best_71 (by decide) ?_
            refine lv_istore (lv' := [(10, .int (nI 0)), (9, .int (nI 0)), (8, .int (nI 0)), (7, .int (nI (k + 1))), (6, .int (bt)), (5, .int (bg)), (4, .int (nI (b1))), (3, .int (nI (2 ^ n - 1))), (0, .ref (b 0)), (1, .int (v)), (2, .int (x))]) hx hb dX5_best_72 hl (by decide) rfl (fun ls hl => ?_)
            have LOOP74 : ∀ (n74 : Nat) (m0 : Nat) (ga : Int32) (la : Int32) (ls : Array Slot), (m0 ≤ n) → (ga = selF (k + 1) (gainF gB) m0) → (la = selF (k + 1) (lackF gB) m0) → (n - m0) < n74 → lv_has ls 11 [(10, .int (nI (m0))), (9, .int (la)), (8, .int (ga)), (7, .int (nI (k + 1))), (6, .int (bt)), (5, .int (bg)), (4, .int (nI (b1))), (3, .int (nI (2 ^ n - 1))), (0, .ref (b 0)), (1, .int (v)), (2, .int (x))] → W p l e (headSpec w_X5_best ({ frames := 2, cells := 0, slots := 0, locals := 47 } : Room)).room s m ([.ref (b 0), .int (v), .int (x)] : List Value).toArray below meth c H3 locs (0 + 0) (0 + 0) (MQ below (xQi (fun r h => ((okR 0 5000 v ∧ okR 0 2000 x) ∧ r = nI (bsF g v x (2 ^ n - 1)).1 ∧ ∃ g2, yW D cA b g2 tt n np h ∧ eqY g g2 0) ∨ (¬ (okR 0 5000 v ∧ okR 0 2000 x) ∧ yW D cA b (thG g 1) tt n np h)) A) ([.ref (b 0), .int (v), .int (x)] : List Value).toArray s 0 0 (A)) (F0 m 74 ls []) := by
              intro n74
              induction n74 with
              | zero => intro m0 ga la ls hm hga hla hmeas hl; exact absurd hmeas (Nat.not_lt_zero _)
              | succ n74 ih74 =>
                intro m0 ga la ls hm hga hla hmeas hl
                refine lv_iload hx hb dX5_best_74 (lv_at hl 0 rfl) ?_
                refine lv_aload_n hx hb dX5_best_76 rfl (lv_at hl 8 rfl) ?_
                refine va_get (D := D) (ci := 6) (v := .int (nI (n))) (C := RX5) (T := TX5) (N := 17) hx hb hts qi_X5 hown hK (xP1 (hXB.main)) 0 rfl rfl 2 (by decide) (hts _ q_fl_X5_54) (fun _ h9 => h9) rfl dX5_best_77 ?_
                refine lv_icmp_ge (tgt := 124) hx hb dX5_best_80 (by decide) (fun c80 => ?_) (fun c80 => ?_)
                · have c80 : n ≤ m0 := (nI_leI (a := n) (b := m0) (by omega) (by omega)).mp c80
                  have hmn : m0 = n := by omega
                  have hga2 : ga = gnF gB (k + 1) := by rw [hga, hmn]; exact (sel_up (gainF gB) hS7 8 hn8).symm
                  have hla2 : la = lkF gB (k + 1) := by rw [hla, hmn]; exact (sel_up (lackF gB) hS7 8 hn8).symm
                  clear hga hla
                  subst hga2 hla2
                  refine lv_aload_n hx hb dX5_best_124 rfl (lv_at hl 8 rfl) ?_
                  refine lv_iload hx hb dX5_best_125 (lv_at hl 3 rfl) ?_
                  refine xcRi (va_runV (As := [.int (nI (k + 1))]) (rest := []) ⟨hx, hb, hml, hown, hts⟩ (c_X5_minutesOf l D cA e0 A H3 b gB tt n np hXB hn8 (k + 1) hS7 (hrB (k + 1) (by omega))) ⟨(callB_of 1 hts gi_X5_minutesOf rfl rfl rfl (hts _ q_ini_X5) (hts _ q_ml_X5_129) hd_X5_minutesOf ⟨Nat.le_of_ble_eq_true rfl, Nat.le_of_ble_eq_true rfl⟩), hts _ q_im_X5_minutesOf, hts _ q_sel_X5_X5_minutesOf⟩ (xpV hE hS (hXB.main) rfl) rfl rfl hl.1 rfl (lv_room (Nat.le_of_ble_eq_true rfl)) dX5_best_127 ⟨Nat.le_of_ble_eq_true rfl, Nat.le_of_ble_eq_true rfl⟩) ?_
                  refine lv_istore (lv' := [(10, .int (rtF gB (k + 1))), (9, .int (lkF gB (k + 1))), (8, .int (gnF gB (k + 1))), (7, .int (nI (k + 1))), (6, .int (bt)), (5, .int (bg)), (4, .int (nI (b1))), (3, .int (nI (2 ^ n - 1))), (0, .ref (b 0)), (1, .int (v)), (2, .int (x))]) hx hb dX5_best_130 hl (by decide) rfl (fun ls hl => ?_)
                  refine lv_iload hx hb dX5_best_132 (lv_at hl 0 rfl) ?_
                  refine lv_iload_n hx hb dX5_best_134 rfl (lv_at hl 9 rfl) ?_
                  refine lv_icmp_gt (tgt := 180) hx hb dX5_best_135 (by decide) (fun c135 => ?_) (fun c135 => ?_)
                  · refine lv_iinc (v := nI (k + 1 + 1)) (lv' := [(7, .int (nI (k + 1 + 1))), (10, .int (rtF gB (k + 1))), (9, .int (lkF gB (k + 1))), (8, .int (gnF gB (k + 1))), (6, .int (bt)), (5, .int (bg)), (4, .int (nI (b1))), (3, .int (nI (2 ^ n - 1))), (0, .ref (b 0)), (1, .int (v)), (2, .int (x))]) hx hb dX5_best_180 hl (k := 3) rfl (nI_add (k + 1) 1) (by decide) rfl (fun ls hl => ?_)
                    refine lv_goto (tgt := 59) hx hb dX5_best_183 (by decide) ?_
                    exact ih59 (k + 1) b1 bg bt _ (by omega) (by rw [bs_no (fun z => by rw [hbs] at z; exact gt_nle c135 z.1.1), hbs]) (by omega) (lv_sub hl [0, 4, 5, 6, 7, 8, 9, 10] rfl)
                  · refine lv_iload hx hb dX5_best_138 (lv_at hl 1 rfl) ?_
                    refine lv_iload_n hx hb dX5_best_140 rfl (lv_at hl 10 rfl) ?_
                    refine lv_icmp_gt (tgt := 180) hx hb dX5_best_141 (by decide) (fun c141 => ?_) (fun c141 => ?_)
                    · refine lv_iinc (v := nI (k + 1 + 1)) (lv' := [(7, .int (nI (k + 1 + 1))), (10, .int (rtF gB (k + 1))), (9, .int (lkF gB (k + 1))), (8, .int (gnF gB (k + 1))), (6, .int (bt)), (5, .int (bg)), (4, .int (nI (b1))), (3, .int (nI (2 ^ n - 1))), (0, .ref (b 0)), (1, .int (v)), (2, .int (x))]) hx hb dX5_best_180 hl (k := 3) rfl (nI_add (k + 1) 1) (by decide) rfl (fun ls hl => ?_)
                      refine lv_goto (tgt := 59) hx hb dX5_best_183 (by decide) ?_
                      exact ih59 (k + 1) b1 bg bt _ (by omega) (by rw [bs_no (fun z => by rw [hbs] at z; exact gt_nle c141 z.1.2), hbs]) (by omega) (lv_sub hl [0, 4, 5, 6, 7, 8, 9, 10] rfl)
                    · refine lv_iload hx hb dX5_best_144 (lv_at hl 2 rfl) ?_
                      refine lv_iload hx hb dX5_best_146 (lv_at hl 5 rfl) ?_
                      refine lv_icmp_lt (tgt := 180) hx hb dX5_best_148 (by decide) (fun c148 => ?_) (fun c148 => ?_)
                      · refine lv_iinc (v := nI (k + 1 + 1)) (lv' := [(7, .int (nI (k + 1 + 1))), (10, .int (rtF gB (k + 1))), (9, .int (lkF gB (k + 1))), (8, .int (gnF gB (k + 1))), (6, .int (bt)), (5, .int (bg)), (4, .int (nI (b1))), (3, .int (nI (2 ^ n - 1))), (0, .ref (b 0)), (1, .int (v)), (2, .int (x))]) hx hb dX5_best_180 hl (k := 3) rfl (nI_add (k + 1) 1) (by decide) rfl (fun ls hl => ?_)
                        refine lv_goto (tgt := 59) hx hb dX5_best_183 (by decide) ?_
                        exact ih59 (k + 1) b1 bg bt _ (by omega) (by rw [bs_no (fun z => by rw [hbs] at z; exact no_lt c148 z.2), hbs]) (by omega) (lv_sub hl [0, 4, 5, 6, 7, 8, 9, 10] rfl)
                      · refine lv_iload hx hb dX5_best_151 (lv_at hl 2 rfl) ?_
                        refine lv_iload hx hb dX5_best_153 (lv_at hl 5 rfl) ?_
                        refine lv_icmp_ne (tgt := 168) hx hb dX5_best_155 (by decide) (fun c155 => ?_) (fun c155 => ?_)
                        · refine lv_iload hx hb dX5_best_168 (lv_at hl 3 rfl) ?_
                          refine lv_istore (lv' := [(4, .int (nI (k + 1))), (10, .int (rtF gB (k + 1))), (9, .int (lkF gB (k + 1))), (8, .int (gnF gB (k + 1))), (7, .int (nI (k + 1))), (6, .int (bt)), (5, .int (bg)), (3, .int (nI (2 ^ n - 1))), (0, .ref (b 0)), (1, .int (v)), (2, .int (x))]) hx hb dX5_best_170 hl (by decide) rfl (fun ls hl => ?_)
                          refine lv_iload hx hb dX5_best_172 (lv_at hl 3 rfl) ?_
                          refine lv_istore (lv' := [(5, .int (gnF gB (k + 1))), (4, .int (nI (k + 1))), (10, .int (rtF gB (k + 1))), (9, .int (lkF gB (k + 1))), (8, .int (gnF gB (k + 1))), (7, .int (nI (k + 1))), (6, .int (bt)), (3, .int (nI (2 ^ n - 1))), (0, .ref (b 0)), (1, .int (v)), (2, .int (x))]) hx hb dX5_best_174 hl (by decide) rfl (fun ls hl => ?_)
                          refine lv_iload hx hb dX5_best_176 (lv_at hl 2 rfl) ?_
                          refine lv_istore (lv' := [(6, .int (rtF gB (k + 1))), (5, .int (gnF gB (k + 1))), (4, .int (nI (k + 1))), (10, .int (rtF gB (k + 1))), (9, .int (lkF gB (k + 1))), (8, .int (gnF gB (k + 1))), (7, .int (nI (k + 1))), (3, .int (nI (2 ^ n - 1))), (0, .ref (b 0)), (1, .int (v)), (2, .int (x))]) hx hb dX5_best_178 hl (by decide) rfl (fun ls hl => ?_)
                          refine lv_iinc (v := nI (k + 1 + 1)) (lv' := [(7, .int (nI (k + 1 + 1))), (6, .int (rtF gB (k + 1))), (5, .int (gnF gB (k + 1))), (4, .int (nI (k + 1))), (10, .int (rtF gB (k + 1))), (9, .int (lkF gB (k + 1))), (8, .int (gnF gB (k + 1))), (3, .int (nI (2 ^ n - 1))), (0, .ref (b 0)), (1, .int (v)), (2, .int (x))]) hx hb dX5_best_180 hl (k := 6) rfl (nI_add (k + 1) 1) (by decide) rfl (fun ls hl => ?_)
                          refine lv_goto (tgt := 59) hx hb dX5_best_183 (by decide) ?_
                          exact ih59 (k + 1) (k + 1) (gnF gB (k + 1)) (rtF gB (k + 1)) _ (by omega) (bs_yes ⟨⟨ngt_le c135, ngt_le c141⟩, by rw [hbs]; exact Or.inl (nlt_ne c148 c155)⟩) (by omega) (lv_sub hl [0, 1, 2, 3, 7, 8, 9, 10] rfl)
                        · refine lv_iload hx hb dX5_best_158 (lv_at hl 0 rfl) ?_
                          refine lv_iload hx hb dX5_best_160 (lv_at hl 4 rfl) ?_
                          refine lv_icmp_lt (tgt := 168) hx hb dX5_best_162 (by decide) (fun c162 => ?_) (fun c162 => ?_)
                          · refine lv_iload hx hb dX5_best_168 (lv_at hl 3 rfl) ?_
                            refine lv_istore (lv' := [(4, .int (nI (k + 1))), (10, .int (rtF gB (k + 1))), (9, .int (lkF gB (k + 1))), (8, .int (gnF gB (k + 1))), (7, .int (nI (k + 1))), (6, .int (bt)), (5, .int (bg)), (3, .int (nI (2 ^ n - 1))), (0, .ref (b 0)), (1, .int (v)), (2, .int (x))]) hx hb dX5_best_170 hl (by decide) rfl (fun ls hl => ?_)
                            refine lv_iload hx hb dX5_best_172 (lv_at hl 3 rfl) ?_
                            refine lv_istore (lv' := [(5, .int (gnF gB (k + 1))), (4, .int (nI (k + 1))), (10, .int (rtF gB (k + 1))), (9, .int (lkF gB (k + 1))), (8, .int (gnF gB (k + 1))), (7, .int (nI (k + 1))), (6, .int (bt)), (3, .int (nI (2 ^ n - 1))), (0, .ref (b 0)), (1, .int (v)), (2, .int (x))]) hx hb dX5_best_174 hl (by decide) rfl (fun ls hl => ?_)
                            refine lv_iload hx hb dX5_best_176 (lv_at hl 2 rfl) ?_
                            refine lv_istore (lv' := [(6, .int (rtF gB (k + 1))), (5, .int (gnF gB (k + 1))), (4, .int (nI (k + 1))), (10, .int (rtF gB (k + 1))), (9, .int (lkF gB (k + 1))), (8, .int (gnF gB (k + 1))), (7, .int (nI (k + 1))), (3, .int (nI (2 ^ n - 1))), (0, .ref (b 0)), (1, .int (v)), (2, .int (x))]) hx hb dX5_best_178 hl (by decide) rfl (fun ls hl => ?_)
                            refine lv_iinc (v := nI (k + 1 + 1)) (lv' := [(7, .int (nI (k + 1 + 1))), (6, .int (rtF gB (k + 1))), (5, .int (gnF gB (k + 1))), (4, .int (nI (k + 1))), (10, .int (rtF gB (k + 1))), (9, .int (lkF gB (k + 1))), (8, .int (gnF gB (k + 1))), (3, .int (nI (2 ^ n - 1))), (0, .ref (b 0)), (1, .int (v)), (2, .int (x))]) hx hb dX5_best_180 hl (k := 6) rfl (nI_add (k + 1) 1) (by decide) rfl (fun ls hl => ?_)
                            refine lv_goto (tgt := 59) hx hb dX5_best_183 (by decide) ?_
                            exact ih59 (k + 1) (k + 1) (gnF gB (k + 1)) (rtF gB (k + 1)) _ (by omega) (bs_yes ⟨⟨ngt_le c135, ngt_le c141⟩, by rw [hbs]; exact Or.inr ⟨c155, c162⟩⟩) (by omega) (lv_sub hl [0, 1, 2, 3, 7, 8, 9, 10] rfl)
                          · refine lv_goto (tgt := 180) hx hb dX5_best_165 (by decide) ?_
                            refine lv_iinc (v := nI (k + 1 + 1)) (lv' := [(7, .int (nI (k + 1 + 1))), (10, .int (rtF gB (k + 1))), (9, .int (lkF gB (k + 1))), (8, .int (gnF gB (k + 1))), (6, .int (bt)), (5, .int (bg)), (4, .int (nI (b1))), (3, .int (nI (2 ^ n - 1))), (0, .ref (b 0)), (1, .int (v)), (2, .int (x))]) hx hb dX5_best_180 hl (k := 3) rfl (nI_add (k + 1) 1) (by decide) rfl (fun ls hl => ?_)
                            refine lv_goto (tgt := 59) hx hb dX5_best_183 (by decide) ?_
                            exact ih59 (k + 1) b1 bg bt _ (by omega) (by rw [bs_no (fun z => by rw [hbs] at z; exact no_eq c155 c162 z.2), hbs]) (by omega) (lv_sub hl [0, 4, 5, 6, 7, 8, 9, 10] rfl)
                · have c80 : ¬ (n ≤ m0) := fun z => c80 ((nI_leI (a := n) (b := m0) (by omega) (by omega)).mpr z)
                  refine lv_iload hx hb dX5_best_83 (lv_at hl 3 rfl) ?_
                  refine lv_iload hx hb dX5_best_85 (lv_at hl 0 rfl) ?_
                  refine xcRi (va_runS (As := [.int (nI (k + 1)), .int (nI (m0))]) (rest := []) ⟨hx, hb, hml, hown, hts⟩ (c_X5_has l D cA e0 A H3 (k + 1) m0 hS6 (by omega)) ⟨(callB_of 2 hts gi_X5_has rfl rfl rfl (hts _ q_ini_X5) (hts _ q_ml_X5_110) hd_X5_has ⟨Nat.le_of_ble_eq_true rfl, Nat.le_of_ble_eq_true rfl⟩), hts _ q_st_X5_has⟩ (xpS hE hS) rfl rfl hl.1 rfl (lv_room (Nat.le_of_ble_eq_true rfl)) dX5_best_87 ⟨Nat.le_of_ble_eq_true rfl, Nat.le_of_ble_eq_true rfl⟩) ?_
                  refine lv_if_ne (tgt := 96) hx hb dX5_best_90 (by decide) (fun c90 => ?_) (fun c90 => ?_)
                  · have hbit : (k + 1).testBit m0 = true := by
                      cases hq : (k + 1).testBit m0 with
                      | true => rfl
                      | false => rw [hq] at c90; exact absurd rfl c90
                    refine lv_iload hx hb dX5_best_96 (lv_at hl 2 rfl) ?_
                    refine lv_aload_n hx hb dX5_best_98 rfl (lv_at hl 8 rfl) ?_
                    refine lv_iload hx hb dX5_best_99 (lv_at hl 0 rfl) ?_
                    refine xcRi (va_runV (As := [.int (nI (m0))]) (rest := [.int (ga)]) ⟨hx, hb, hml, hown, hts⟩ (c_X5_gain l D cA e0 A H3 b gB tt n np hXB hn8 m0 (by omega)) ⟨(callB_of 1 hts gi_X5_gain rfl rfl rfl (hts _ q_ini_X5) (hts _ q_ml_X5_95) hd_X5_gain ⟨Nat.le_of_ble_eq_true rfl, Nat.le_of_ble_eq_true rfl⟩), hts _ q_im_X5_gain, hts _ q_sel_X5_X5_gain⟩ (xpV hE hS (hXB.main) rfl) rfl rfl hl.1 rfl (lv_room (Nat.le_of_ble_eq_true rfl)) dX5_best_101 ⟨Nat.le_of_ble_eq_true rfl, Nat.le_of_ble_eq_true rfl⟩) ?_
                    refine lv_iadd hx hb dX5_best_104 ?_
                    refine lv_istore (lv' := [(8, .int (ga + (gainF gB m0))), (10, .int (nI (m0))), (9, .int (la)), (7, .int (nI (k + 1))), (6, .int (bt)), (5, .int (bg)), (4, .int (nI (b1))), (3, .int (nI (2 ^ n - 1))), (0, .ref (b 0)), (1, .int (v)), (2, .int (x))]) hx hb dX5_best_105 hl (by decide) rfl (fun ls hl => ?_)
                    refine lv_iload hx hb dX5_best_107 (lv_at hl 2 rfl) ?_
                    refine lv_aload_n hx hb dX5_best_109 rfl (lv_at hl 8 rfl) ?_
                    refine lv_iload hx hb dX5_best_110 (lv_at hl 1 rfl) ?_
                    refine xcRi (va_runV (As := [.int (nI (m0))]) (rest := [.int (la)]) ⟨hx, hb, hml, hown, hts⟩ (c_X5_lacks l D cA e0 A H3 b gB tt n np hXB hn8 m0 (by omega)) ⟨(callB_of 1 hts gi_X5_lacks rfl rfl rfl (hts _ q_ini_X5) (hts _ q_ml_X5_92) hd_X5_lacks ⟨Nat.le_of_ble_eq_true rfl, Nat.le_of_ble_eq_true rfl⟩), hts _ q_im_X5_lacks, hts _ q_sel_X5_X5_lacks⟩ (xpV hE hS (hXB.main) rfl) rfl rfl hl.1 rfl (lv_room (Nat.le_of_ble_eq_true rfl)) dX5_best_112 ⟨Nat.le_of_ble_eq_true rfl, Nat.le_of_ble_eq_true rfl⟩) ?_
                    refine lv_iadd hx hb dX5_best_115 ?_
                    refine lv_istore (lv' := [(9, .int (la + (lackF gB m0))), (8, .int (ga + (gainF gB m0))), (10, .int (nI (m0))), (7, .int (nI (k + 1))), (6, .int (bt)), (5, .int (bg)), (4, .int (nI (b1))), (3, .int (nI (2 ^ n - 1))), (0, .ref (b 0)), (1, .int (v)), (2, .int (x))]) hx hb dX5_best_116 hl (by decide) rfl (fun ls hl => ?_)
                    refine lv_iinc (v := nI (m0 + 1)) (lv' := [(10, .int (nI (m0 + 1))), (9, .int (la + (lackF gB m0))), (8, .int (ga + (gainF gB m0))), (7, .int (nI (k + 1))), (6, .int (bt)), (5, .int (bg)), (4, .int (nI (b1))), (3, .int (nI (2 ^ n - 1))), (0, .ref (b 0)), (1, .int (v)), (2, .int (x))]) hx hb dX5_best_118 hl (k := 2) rfl (nI_add m0 1) (by decide) rfl (fun ls hl => ?_)
                    refine lv_goto (tgt := 74) hx hb dX5_best_121 (by decide) ?_
                    exact ih74 (m0 + 1) (ga + (gainF gB m0)) (la + (lackF gB m0)) _ (by omega) (by rw [selF_yes hbit, hga]) (by rw [selF_yes hbit, hla]) (by omega) (lv_sub hl [0, 1, 2, 3, 4, 5, 6, 7, 8, 9, 10] rfl)
                  · have hbit : ¬ (k + 1).testBit m0 = true := fun z => by rw [if_pos z] at c90; exact absurd c90 (by decide)
                    refine lv_goto (tgt := 118) hx hb dX5_best_93 (by decide) ?_
                    refine lv_iinc (v := nI (m0 + 1)) (lv' := [(10, .int (nI (m0 + 1))), (9, .int (la)), (8, .int (ga)), (7, .int (nI (k + 1))), (6, .int (bt)), (5, .int (bg)), (4, .int (nI (b1))), (3, .int (nI (2 ^ n - 1))), (0, .ref (b 0)), (1, .int (v)), (2, .int (x))]) hx hb dX5_best_118 hl (k := 0) rfl (nI_add m0 1) (by decide) rfl (fun ls hl => ?_)
                    refine lv_goto (tgt := 74) hx hb dX5_best_121 (by decide) ?_
                    exact ih74 (m0 + 1) (ga) (la) _ (by omega) (by rw [selF_no hbit]; exact hga) (by rw [selF_no hbit]; exact hla) (by omega) (lv_sub hl [0, 1, 2, 3, 4, 5, 6, 7, 8, 9, 10] rfl)
            exact LOOP74 _ 0 (nI 0) (nI 0) _ (by omega) rfl rfl (Nat.lt_succ_self _) (lv_sub hl [0, 1, 2, 3, 4, 5, 6, 7, 8, 9, 10] rfl)
      exact LOOP59 _ 0 0 (nI 0) (nI 0) _ (by omega) rfl (Nat.lt_succ_self _) (lv_sub hl [0, 1, 2, 3, 4, 5, 6, 7] rfl)
    · refine lv_aload_n hx hb dX5_best_27 rfl (lv_at hl 0 rfl) ?_
      refine lv_iconst (v := nI 1) hx hb dX5_best_28 (by decide) ?_
      refine xci (va_runV (As := [.int (nI 1)]) (rest := []) ⟨hx, hb, hml, hown, hts⟩ (c_X5_fail l D cA e0 A H1 b g1 tt n np hX1 hA (nI 1)) ⟨(callB_of 1 hts gi_X5_fail rfl rfl rfl (hts _ q_ini_X5) (hts _ q_ml_X5_66) hd_X5_fail ⟨Nat.le_of_ble_eq_true rfl, Nat.le_of_ble_eq_true rfl⟩), hts _ q_im_X5_fail, hts _ q_sel_X5_X5_fail⟩ (xpV hE hS (hX1.main) rfl) rfl rfl hl.1 rfl (lv_room (Nat.le_of_ble_eq_true rfl)) dX5_best_29 ⟨Nat.le_of_ble_eq_true rfl, Nat.le_of_ble_eq_true rfl⟩) hS (fun q h => h) (fun r_4 H4 locs hP9 hz9 hk9 hS => ?_)
      obtain ⟨hr9, hXf⟩ := hP9
      have hXf : yW D cA b (thG g 1) tt n np H4 := by rw [← thG_2 g 0 1, ← hg1]; exact hXf
      have hpost : (fun r h => ((okR 0 5000 v ∧ okR 0 2000 x) ∧ r = nI (bsF g v x (2 ^ n - 1)).1 ∧ ∃ g2, yW D cA b g2 tt n np h ∧ eqY g g2 0) ∨ (¬ (okR 0 5000 v ∧ okR 0 2000 x) ∧ yW D cA b (thG g 1) tt n np h)) (r_4) H4 := by
        exact Or.inr ⟨fun z => (in_0.mp c24) ((ou_r (a := 0) (b := 2000) (by omega) (by omega)).mpr z.2), hXf⟩
      refine W.widen (k := 0) (n := 0) (by omega) (by omega) ?_
      exact W.iret (v := r_4) hx hb hr (fun t ht _ => ⟨⟨r_4, H4, rfl, hpost, ht⟩, hS.F ht⟩) hS.2.2 dX5_best_32
