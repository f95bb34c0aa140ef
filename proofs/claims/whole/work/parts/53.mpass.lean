/-! The model: days passed (by p53.py) -/
set_option maxHeartbeats 4000000 in
set_option maxRecDepth 100000 in
/-- model.pass -/
theorem c_X5_pass (l : Launch) (D : va_G) (cA : Nat → ClassId) (e0 : Nat) (A : Nat → Prop) (H0 : Heap) (b : Nat → Nat) (g : Nat → Nat → Int32) (tt : Nat → Int64) (n np : Nat) (hX : yW D cA b g tt n np H0) (hA : yA A b n np) (hI : slInv g n) (hC : chS g n np) (hP : plOK g np) (hdy : ∃ d0, d0 ≤ 999 ∧ g 13 0 = nI d0) (v : Int32) : Met l yX5_pass w_X5_pass ({ frames := 1, cells := 0, slots := 0, locals := 23 } : Room) (xPc D cA e0 A H0 [.ref (b 0), .int (v)]) (xQi (fun r h => ((okR 1 30 v ∧ sumI (g 13 0) v ≤ 999) ∧ r = nI (psS n g np (cl v)).2.2 ∧ ∃ g2, yW D cA b g2 tt n (psS n g np (cl v)).2.1 h ∧ eqT (psS n g np (cl v)).1 g2 ∧ plOK g2 (psS n g np (cl v)).2.1 ∧ chS g2 n (psS n g np (cl v)).2.1 ∧ g2 20 0 = nI 0) ∨ (¬ okR 1 30 v ∧ yW D cA b (thG g 1) tt n np h) ∨ (okR 1 30 v ∧ ¬ (sumI (g 13 0) v ≤ 999) ∧ yW D cA b (thG g 2) tt n np h)) A) 0 0 (A) := by
  refine Met.ofW (cc := cX5_pass) (maxL := 6) (ret := (some .int)) (by decide) rfl ?_
  intro p e s m args below meth c s₁ B hml hv
  obtain ⟨rfl, hH, hE⟩ := hv
  subst hH
  have hx := B.exec
  have hb := B.bytes
  have hr := B.returns
  have hts := hE.1.all ([.ref (b 0), .int (v)] : List Value).toArray
  have hown : s.vm.findClass RX5 = some m.cls := findClass_of_methodNamed B.named
  have hlocks := B.notSynchronized
  have hK := hE.2.1
  have hS : va_S A s.heap s.heap [] := va_S.rf
  have hl := lv_entry ([.ref (b 0), .int (v)]) (n := 6) (Nat.le_of_ble_eq_true rfl)
  rw [lg_entry_eq]
  generalize (lg_sl ([.ref (b 0), .int (v)]) ++ List.replicate (6 - (lg_sl ([.ref (b 0), .int (v)])).length) Slot.unset).toArray = ls at hl ⊢
  have hl : lv_has ls 6 [(0, .ref (b 0)), (1, .int (v))] := hl
  have hn8 := hA.2.2.1
  obtain ⟨d0, hd0, hdd⟩ := hdy
  refine lv_aload_n hx hb dX5_pass_0 rfl (lv_at hl 0 rfl) ?_
  refine lv_iconst (v := nI 0) hx hb dX5_pass_1 (by decide) ?_
  refine xput (D := D) (ci := 6) (v := .int (nI 0)) (C := RX5) (T := TX5) (N := 17) hx hb hts qi_X5 tyX5 tyX5_ok nmX5 hown hK hS (hX.main) (hA.a (show 0 < 14 by omega)) rfl 0 (by decide) (hts _ q_fl_X5_50) (fun _ h9 => h9) rfl (tyX5_ok 0 (by decide)) rfl rfl (Nat.le_of_ble_eq_true rfl) dX5_pass_2 (fun H1 locs hU hS => ?_)
  obtain ⟨g1, hg1⟩ : ∃ z, z = thG g 0 := ⟨_, rfl⟩
  have hX1 : yW D cA b g1 tt n np H1 := by rw [hg1]; exact hX.pthr hA hU
  have h13 : g1 13 0 = g 13 0 := by rw [hg1, thG_t g 0 (by omega)]
  refine lv_iload_n hx hb dX5_pass_5 rfl (lv_at hl 1 rfl) ?_
  refine lv_iconst (v := nI 1) hx hb dX5_pass_6 (by decide) ?_
  refine lv_bipush (v := nI 30) hx hb dX5_pass_7 (by decide) ?_
  refine xcRi (va_runS (As := [.int (v), .int (nI 1), .int (nI 30)]) (rest := []) ⟨hx, hb, hml, hown, hts⟩ (c_X5_isIn l D cA e0 A H1 v (nI 1) (nI 30)) ⟨(callB_of 3 hts gi_X5_isIn rfl rfl rfl (hts _ q_ini_X5) (hts _ q_ml_X5_57) hd_X5_isIn ⟨Nat.le_of_ble_eq_true rfl, Nat.le_of_ble_eq_true rfl⟩), hts _ q_st_X5_isIn⟩ (xpS hE hS) rfl rfl hl.1 rfl (lv_room (Nat.le_of_ble_eq_true rfl)) dX5_pass_9 ⟨Nat.le_of_ble_eq_true rfl, Nat.le_of_ble_eq_true rfl⟩) ?_
  refine lv_if_ne (tgt := 21) hx hb dX5_pass_12 (by decide) (fun c12 => ?_) (fun c12 => ?_)
  · obtain ⟨w, hw1, hw30, rfl⟩ := (ou_r (a := 1) (b := 30) (by omega) (by omega)).mp (Decidable.byContradiction (fun z => c12 (in_0.mpr z)))
    refine lv_aload_n hx hb dX5_pass_21 rfl (lv_at hl 0 rfl) ?_
    refine va_get (D := D) (ci := 6) (v := .int (g1 13 0)) (C := RX5) (T := TX5) (N := 17) hx hb hts qi_X5 hown hK (xP1 (hX1.main)) 0 rfl rfl 1 (by decide) (hts _ q_fl_X5_83) (fun _ h9 => h9) rfl dX5_pass_22 ?_
    refine lv_iload_n hx hb dX5_pass_25 rfl (lv_at hl 1 rfl) ?_
    refine lv_iadd hx hb dX5_pass_26 ?_
    refine xtop (show ((g1 13 0) + (nI (w))) = nI (d0 + w) from by rw [h13, hdd, nI_add]) ?_
    refine lv_sipush (v := nI 999) hx hb dX5_pass_27 (by decide) ?_
    refine lv_icmp_le (tgt := 39) hx hb dX5_pass_30 (by decide) (fun c30 => ?_) (fun c30 => ?_)
    · have c30 : (d0 + w) ≤ 999 := (nI_leI (a := d0 + w) (b := 999) (by omega) (by omega)).mp c30
      refine lv_iconst (v := nI 0) hx hb dX5_pass_39 (by decide) ?_
      refine lv_istore_n (lv' := [(2, .int (nI 0)), (0, .ref (b 0)), (1, .int (nI (w)))]) hx hb dX5_pass_40 rfl hl (by decide) rfl (fun ls hl => ?_)
      refine lv_iconst (v := nI 0) hx hb dX5_pass_41 (by decide) ?_
      refine lv_istore_n (lv' := [(3, .int (nI 0)), (2, .int (nI 0)), (0, .ref (b 0)), (1, .int (nI (w)))]) hx hb dX5_pass_42 rfl hl (by decide) rfl (fun ls hl => ?_)
      have LOOP43 : ∀ (n43 : Nat) (k : Nat) (sold : Nat) (np1 : Nat) (gA : Nat → Nat → Int32) (H : Heap) (locs : List Loc) (ls : Array Slot), (k ≤ w) → (yW D cA b gA tt n np1 H) → (eqT (psS n g np k).1 gA) → (np1 = (psS n g np k).2.1) → (sold = (psS n g np k).2.2) → (plOK gA np1) → (chS gA n np1) → (gA 20 0 = nI 0) → (np1 ≤ 20) → va_S A s.heap H locs → (w - k) < n43 → lv_has ls 6 [(3, .int (nI (k))), (2, .int (nI (sold))), (0, .ref (b 0)), (1, .int (nI (w)))] → W p l e (headSpec w_X5_pass ({ frames := 1, cells := 0, slots := 0, locals := 23 } : Room)).room s m ([.ref (b 0), .int ((nI w))] : List Value).toArray below meth c H locs 0 0 (MQ below (xQi (fun r h => ((okR 1 30 (nI w) ∧ sumI (g 13 0) (nI w) ≤ 999) ∧ r = nI (psS n g np (cl (nI w))).2.2 ∧ ∃ g2, yW D cA b g2 tt n (psS n g np (cl (nI w))).2.1 h ∧ eqT (psS n g np (cl (nI w))).1 g2 ∧ plOK g2 (psS n g np (cl (nI w))).2.1 ∧ chS g2 n (psS n g np (cl (nI w))).2.1 ∧ g2 20 0 = nI 0) ∨ (¬ okR 1 30 (nI w) ∧ yW D cA b (thG g 1) tt n np h) ∨ (okR 1 30 (nI w) ∧ ¬ (sumI (g 13 0) (nI w) ≤ 999) ∧ yW D cA b (thG g 2) tt n np h)) A) ([.ref (b 0), .int ((nI w))] : List Value).toArray s 0 0 (A)) (F0 m 43 ls []) := by
        intro n43
        induction n43 with
        | zero => intro k sold np1 gA H locs ls hk hXA hgA hn1 hso hPA hCA h20 hn20 hS hmeas hl; exact absurd hmeas (Nat.not_lt_zero _)
        | succ n43 ih43 =>
          intro k sold np1 gA H locs ls hk hXA hgA hn1 hso hPA hCA h20 hn20 hS hmeas hl
          have hAA : yA A b n np1 := ⟨hA.1, hA.2.1, hA.2.2.1, hn20⟩
          have hIA : slInv gA n := eqT.iv hgA (ps_iv hI k)
          refine lv_iload_n hx hb dX5_pass_43 rfl (lv_at hl 0 rfl) ?_
          refine lv_iload_n hx hb dX5_pass_44 rfl (lv_at hl 3 rfl) ?_
          refine lv_icmp_ge (tgt := 127) hx hb dX5_pass_45 (by decide) (fun c45 => ?_) (fun c45 => ?_)
          · have c45 : w ≤ k := (nI_leI (a := w) (b := k) (by omega) (by omega)).mp c45
            have hkw : k = w := by omega
            refine lv_iload_n hx hb dX5_pass_127 rfl (lv_at hl 1 rfl) ?_
            have hpost : (fun r h => ((okR 1 30 (nI w) ∧ sumI (g 13 0) (nI w) ≤ 999) ∧ r = nI (psS n g np (cl (nI w))).2.2 ∧ ∃ g2, yW D cA b g2 tt n (psS n g np (cl (nI w))).2.1 h ∧ eqT (psS n g np (cl (nI w))).1 g2 ∧ plOK g2 (psS n g np (cl (nI w))).2.1 ∧ chS g2 n (psS n g np (cl (nI w))).2.1 ∧ g2 20 0 = nI 0) ∨ (¬ okR 1 30 (nI w) ∧ yW D cA b (thG g 1) tt n np h) ∨ (okR 1 30 (nI w) ∧ ¬ (sumI (g 13 0) (nI w) ≤ 999) ∧ yW D cA b (thG g 2) tt n np h)) (nI (sold)) H := by
              have e : cl (nI w) = w := cl_nI (by omega)
              rw [e]
              subst hkw
              exact Or.inl ⟨⟨⟨k, hw1, hw30, rfl⟩, by unfold sumI; rw [hdd, nI_toInt (by omega), nI_toInt (by omega)]; omega⟩, by rw [hso], gA, by rw [← hn1]; exact hXA, hgA, by rw [← hn1]; exact hPA, by rw [← hn1]; exact hCA, h20⟩
            refine W.widen (k := 0) (n := 0) (by omega) (by omega) ?_
            exact W.iret (v := (nI (sold))) hx hb hr (fun t ht _ => ⟨⟨(nI (sold)), H, rfl, hpost, ht⟩, hS.F ht⟩) hS.2.2 dX5_pass_128
          · have c45 : ¬ (w ≤ k) := fun z => c45 ((nI_leI (a := w) (b := k) (by omega) (by omega)).mpr z)
            refine lv_iconst (v := nI 0) hx hb dX5_pass_48 (by decide) ?_
            refine lv_istore (lv' := [(4, .int (nI 0)), (3, .int (nI (k))), (2, .int (nI (sold))), (0, .ref (b 0)), (1, .int (nI (w)))]) hx hb dX5_pass_49 hl (by decide) rfl (fun ls hl => ?_)
            have LOOP51 : ∀ (n51 : Nat) (a : Nat) (m1 : Nat) (gB : Nat → Nat → Int32) (H : Heap) (locs : List Loc) (ls : Array Slot), (a ≤ 6 * n) → (yW D cA b gB tt n np1 H) → (gB = (so gA 0 a).1) → (m1 = sold + (so gA 0 a).2) → va_S A s.heap H locs → (6 * n - a) < n51 → lv_has ls 6 [(4, .int (nI (a))), (2, .int (nI (m1))), (3, .int (nI (k))), (0, .ref (b 0)), (1, .int (nI (w)))] → W p l e (headSpec w_X5_pass ({ frames := 1, cells := 0, slots := 0, locals := 23 } : Room)).room s m ([.ref (b 0), .int ((nI w))] : List Value).toArray below meth c H locs 0 0 (MQ below (xQi (fun r h => ((okR 1 30 (nI w) ∧ sumI (g 13 0) (nI w) ≤ 999) ∧ r = nI (psS n g np (cl (nI w))).2.2 ∧ ∃ g2, yW D cA b g2 tt n (psS n g np (cl (nI w))).2.1 h ∧ eqT (psS n g np (cl (nI w))).1 g2 ∧ plOK g2 (psS n g np (cl (nI w))).2.1 ∧ chS g2 n (psS n g np (cl (nI w))).2.1 ∧ g2 20 0 = nI 0) ∨ (¬ okR 1 30 (nI w) ∧ yW D cA b (thG g 1) tt n np h) ∨ (okR 1 30 (nI w) ∧ ¬ (sumI (g 13 0) (nI w) ≤ 999) ∧ yW D cA b (thG g 2) tt n np h)) A) ([.ref (b 0), .int ((nI w))] : List Value).toArray s 0 0 (A)) (F0 m 51 ls []) := by
              intro n51
              induction n51 with
              | zero => intro a m1 gB H locs ls ha hXB hgB hm1 hS hmeas hl; exact absurd hmeas (Nat.not_lt_zero _)
              | succ n51 ih51 =>
                intro a m1 gB H locs ls ha hXB hgB hm1 hS hmeas hl
                have hIB : slInv gB n := by rw [hgB]; exact so_iv hIA 0 a (by omega)
                refine lv_iload hx hb dX5_pass_51 (lv_at hl 0 rfl) ?_
                refine lv_bipush (v := nI 6) hx hb dX5_pass_53 (by decide) ?_
                refine lv_aload_n hx hb dX5_pass_55 rfl (lv_at hl 3 rfl) ?_
                refine va_get (D := D) (ci := 6) (v := .int (nI (n))) (C := RX5) (T := TX5) (N := 17) hx hb hts qi_X5 hown hK (xP1 (hXB.main)) 0 rfl rfl 2 (by decide) (hts _ q_fl_X5_54) (fun _ h9 => h9) rfl dX5_pass_56 ?_
                refine lv_imul hx hb dX5_pass_59 ?_
                refine xtop (show ((nI 6) * (nI (n))) = nI (6 * n) from pk_mul 6 n) ?_
                refine lv_icmp_ge (tgt := 107) hx hb dX5_pass_60 (by decide) (fun c60 => ?_) (fun c60 => ?_)
                · have c60 : (6 * n) ≤ a := (nI_leI (a := 6 * n) (b := a) (by omega) (by omega)).mp c60
                  have ha6 : a = 6 * n := by omega
                  refine lv_aload_n hx hb dX5_pass_107 rfl (lv_at hl 3 rfl) ?_
                  refine lv_dup hx hb dX5_pass_108 rfl ?_
                  refine va_get (D := D) (ci := 6) (v := .int (gB 13 0)) (C := RX5) (T := TX5) (N := 17) hx hb hts qi_X5 hown hK (xP1 (hXB.main)) 0 rfl rfl 1 (by decide) (hts _ q_fl_X5_83) (fun _ h9 => h9) rfl dX5_pass_109 ?_
                  refine lv_iconst (v := nI 1) hx hb dX5_pass_112 (by decide) ?_
                  refine lv_iadd hx hb dX5_pass_113 ?_
                  refine xput (D := D) (ci := 6) (v := .int ((gB 13 0) + (nI 1))) (C := RX5) (T := TX5) (N := 17) hx hb hts qi_X5 tyX5 tyX5_ok nmX5 hown hK hS (hXB.main) (hAA.a (show 0 < 14 by omega)) rfl 1 (by decide) (hts _ q_fl_X5_83) (fun _ h9 => h9) rfl (tyX5_ok 1 (by decide)) rfl rfl (Nat.le_of_ble_eq_true rfl) dX5_pass_114 (fun H2 locs hU hS => ?_)
                  obtain ⟨gE, hgE⟩ : ∃ z, z = va_up gB 13 (upd (gB 13) 0 (gB 13 0 + nI 1)) := ⟨_, rfl⟩
                  have hXE : yW D cA b gE tt n np1 H2 := by rw [hgE]; exact hXB.pday hAA hU
                  have hgd : gE = dyG gA n := by rw [hgE, hgB, ha6]; rfl
                  have hPE : plOK gE np1 := by rw [hgd]; exact plOK_c hPA (dy_t gA n (by omega) (by omega) (by omega) (by omega) (by omega)) (dy_t gA n (by omega) (by omega) (by omega) (by omega) (by omega)) (dy_t gA n (by omega) (by omega) (by omega) (by omega) (by omega)) (dy_t gA n (by omega) (by omega) (by omega) (by omega) (by omega))
                  have hCE : chS gE n np1 := fun j hj => by rw [hgd, dy_t gA n (by omega) (by omega) (by omega) (by omega) (by omega)]; exact hCA j hj
                  refine lv_aload_n hx hb dX5_pass_117 rfl (lv_at hl 3 rfl) ?_
                  refine xcv (va_runV (As := []) (rest := []) ⟨hx, hb, hml, hown, hts⟩ (c_X5_change l D cA e0 A H2 b gE tt n np1 hXE hAA hPE hCE) ⟨(callB_of 0 hts gi_X5_change rfl rfl rfl (hts _ q_ini_X5) (hts _ q_ml_X5_104) hd_X5_change ⟨Nat.le_of_ble_eq_true rfl, Nat.le_of_ble_eq_true rfl⟩), hts _ q_im_X5_change, hts _ q_sel_X5_X5_change⟩ (xpV hE hS (hXE.main) rfl) rfl rfl hl.1 rfl (lv_room (Nat.le_of_ble_eq_true rfl)) dX5_pass_118 ⟨Nat.le_of_ble_eq_true rfl, Nat.le_of_ble_eq_true rfl⟩) hS (fun q h => h) (fun H3 locs hP9 hz9 hk9 hS => ?_)
                  obtain ⟨gF, hXF, heF, hPF, hCF, h20F⟩ := hP9
                  refine lv_iinc (v := nI (k + 1)) (lv' := [(3, .int (nI (k + 1))), (4, .int (nI (a))), (2, .int (nI (m1))), (0, .ref (b 0)), (1, .int (nI (w)))]) hx hb dX5_pass_121 hl (k := 2) rfl (nI_add k 1) (by decide) rfl (fun ls hl => ?_)
                  refine lv_goto (tgt := 43) hx hb dX5_pass_124 (by decide) ?_
                  have hst := psT_step (m := n) hgA hn1
                  rw [hgd] at hXF heF hPF hCF h20F
                  exact ih43 (k + 1) m1 (kpt (dyG gA n) np1).length gF H3 locs _ (by omega) hXF (hst.1.tr heF) hst.2.1 (by rw [hst.2.2, hm1, hso, ha6]) hPF hCF (by rw [h20F, dy_t gA n (by omega) (by omega) (by omega) (by omega) (by omega)]; exact h20) (Nat.le_trans (kpt_le _ _) hn20) hS (by omega) (lv_sub hl [0, 2, 3, 4] rfl)
                · have c60 : ¬ ((6 * n) ≤ a) := fun z => c60 ((nI_leI (a := 6 * n) (b := a) (by omega) (by omega)).mpr z)
                  obtain ⟨ca, s1, d1, h4, h5, h7, hsc, hc30, hd20⟩ := hIB a (by omega)
                  refine lv_iconst (v := nI 0) hx hb dX5_pass_63 (by decide) ?_
                  refine lv_istore (lv' := [(5, .int (nI 0)), (4, .int (nI (a))), (2, .int (nI (m1))), (3, .int (nI (k))), (0, .ref (b 0)), (1, .int (nI (w)))]) hx hb dX5_pass_64 hl (by decide) rfl (fun ls hl => ?_)
                  have LOOP66 : ∀ (n66 : Nat) (p9 : Nat) (m2 : Nat) (gC : Nat → Nat → Int32) (H : Heap) (locs : List Loc) (ls : Array Slot), (p9 ≤ d1) → (yW D cA b gC tt n np1 H) → (gC = mfG gB (a / 6) a p9) → (m2 = m1 + (slS (gB 6 a) (gB 0 (a / 6)) (gB 5 a) (gB 1 (a / 6)) p9).2.2) → va_S A s.heap H locs → (d1 - p9) < n66 → lv_has ls 6 [(5, .int (nI (p9))), (4, .int (nI (a))), (2, .int (nI (m2))), (3, .int (nI (k))), (0, .ref (b 0)), (1, .int (nI (w)))] → W p l e (headSpec w_X5_pass ({ frames := 1, cells := 0, slots := 0, locals := 23 } : Room)).room s m ([.ref (b 0), .int ((nI w))] : List Value).toArray below meth c H locs 0 0 (MQ below (xQi (fun r h => ((okR 1 30 (nI w) ∧ sumI (g 13 0) (nI w) ≤ 999) ∧ r = nI (psS n g np (cl (nI w))).2.2 ∧ ∃ g2, yW D cA b g2 tt n (psS n g np (cl (nI w))).2.1 h ∧ eqT (psS n g np (cl (nI w))).1 g2 ∧ plOK g2 (psS n g np (cl (nI w))).2.1 ∧ chS g2 n (psS n g np (cl (nI w))).2.1 ∧ g2 20 0 = nI 0) ∨ (¬ okR 1 30 (nI w) ∧ yW D cA b (thG g 1) tt n np h) ∨ (okR 1 30 (nI w) ∧ ¬ (sumI (g 13 0) (nI w) ≤ 999) ∧ yW D cA b (thG g 2) tt n np h)) A) ([.ref (b 0), .int ((nI w))] : List Value).toArray s 0 0 (A)) (F0 m 66 ls []) := by
                    intro n66
                    induction n66 with
                    | zero => intro p9 m2 gC H locs ls hp9 hXC hgC hm2 hS hmeas hl; exact absurd hmeas (Nat.not_lt_zero _)
                    | succ n66 ih66 =>
                      intro p9 m2 gC H locs ls hp9 hXC hgC hm2 hS hmeas hl
                      refine lv_iload hx hb dX5_pass_66 (lv_at hl 0 rfl) ?_
                      refine lv_aload_n hx hb dX5_pass_68 rfl (lv_at hl 4 rfl) ?_
                      refine va_get (D := D) (ci := 6) (v := .ref (b 8)) (C := RX5) (T := TX5) (N := 17) hx hb hts qi_X5 hown hK (xP1 (hXC.main)) 0 rfl rfl 10 (by decide) (hts _ q_fl_X5_31) (fun _ h9 => h9) rfl dX5_pass_69 ?_
                      refine lv_iload hx hb dX5_pass_72 (lv_at hl 1 rfl) ?_
                      refine va_iald hx hb hK (xP1 (hXC.t7)) 0 0 rfl rfl (i := nI (a)) (vp_in_nI (n := a) (by omega) (by omega)) dX5_pass_74 ?_
                      refine xtop (show ((fun z => gC 7 (z)) (nI (a)).toNatClampNeg) = nI (d1) from by rw [nI_clamp (n := a) (by omega), hgC, mfG_t gB (a / 6) a p9 (by omega) (by omega) (by omega) (by omega)]; exact h7) ?_
                      refine lv_icmp_ge (tgt := 101) hx hb dX5_pass_75 (by decide) (fun c75 => ?_) (fun c75 => ?_)
                      · have c75 : d1 ≤ p9 := (nI_leI (a := d1) (b := p9) (by omega) (by omega)).mp c75
                        have hpd : p9 = d1 := by omega
                        refine lv_iinc (v := nI (a + 1)) (lv' := [(4, .int (nI (a + 1))), (5, .int (nI (p9))), (2, .int (nI (m2))), (3, .int (nI (k))), (0, .ref (b 0)), (1, .int (nI (w)))]) hx hb dX5_pass_101 hl (k := 1) rfl (nI_add a 1) (by decide) rfl (fun ls hl => ?_)
                        refine lv_goto (tgt := 51) hx hb dX5_pass_104 (by decide) ?_
                        exact ih51 (a + 1) m2 gC H locs _ (by omega) hXC (by
                            rw [so_0s, ← hgB, hgC, hpd]
                            exact (mf_end h7 hd20).1) (by
                            rw [so_0s]
                            show m2 = sold + ((so gA 0 a).2 + cntF (so gA 0 a).1 (a / 6) a)
                            rw [← hgB, ← (mf_end h7 hd20).2, hm2, hm1, hpd, Nat.add_assoc]) hS (by omega) (lv_sub hl [0, 2, 3, 4, 5] rfl)
                      · have c75 : ¬ (d1 ≤ p9) := fun z => c75 ((nI_leI (a := d1) (b := p9) (by omega) (by omega)).mpr z)
                        refine lv_iload_n hx hb dX5_pass_78 rfl (lv_at hl 2 rfl) ?_
                        refine lv_aload_n hx hb dX5_pass_79 rfl (lv_at hl 4 rfl) ?_
                        refine lv_iload hx hb dX5_pass_80 (lv_at hl 1 rfl) ?_
                        refine xci (va_runV (As := [.int (nI (a))]) (rest := [.int (nI (m2))]) ⟨hx, hb, hml, hown, hts⟩ (c_X5_sell l D cA e0 A H b gC tt n np1 hXC hAA a (by omega)) ⟨(callB_of 1 hts gi_X5_sell rfl rfl rfl (hts _ q_ini_X5) (hts _ q_ml_X5_101) hd_X5_sell ⟨Nat.le_of_ble_eq_true rfl, Nat.le_of_ble_eq_true rfl⟩), hts _ q_im_X5_sell, hts _ q_sel_X5_X5_sell⟩ (xpV hE hS (hXC.main) rfl) rfl rfl hl.1 rfl (lv_room (Nat.le_of_ble_eq_true rfl)) dX5_pass_82 ⟨Nat.le_of_ble_eq_true rfl, Nat.le_of_ble_eq_true rfl⟩) hS (fun q h => h) (fun r_4 H4 locs hP9 hz9 hk9 hS => ?_)
                        rcases hP9 with ⟨hY, hr9, hXs⟩ | ⟨hY, hr9, hXs⟩
                        · rw [hr9]
                          have hY2 : seY (mfG gB (a / 6) a p9) (a / 6) a := by rw [← hgC]; exact hY
                          refine lv_if_eq (tgt := 92) hx hb dX5_pass_85 (by decide) (fun hno => absurd hno ((by decide))) (fun _ => ?_)
                          refine lv_iconst (v := nI 1) hx hb dX5_pass_88 (by decide) ?_
                          refine lv_goto (tgt := 93) hx hb dX5_pass_89 (by decide) ?_
                          refine lv_iadd hx hb dX5_pass_93 ?_
                          refine xtop (show ((nI (m2)) + (nI 1)) = nI (m2 + 1) from nI_add m2 1) ?_
                          refine lv_istore_n (lv' := [(2, .int (nI (m2 + 1))), (5, .int (nI (p9))), (4, .int (nI (a))), (3, .int (nI (k))), (0, .ref (b 0)), (1, .int (nI (w)))]) hx hb dX5_pass_94 rfl hl (by decide) rfl (fun ls hl => ?_)
                          refine lv_iinc (v := nI (p9 + 1)) (lv' := [(5, .int (nI (p9 + 1))), (2, .int (nI (m2 + 1))), (4, .int (nI (a))), (3, .int (nI (k))), (0, .ref (b 0)), (1, .int (nI (w)))]) hx hb dX5_pass_95 hl (k := 1) rfl (nI_add p9 1) (by decide) rfl (fun ls hl => ?_)
                          refine lv_goto (tgt := 66) hx hb dX5_pass_98 (by decide) ?_
                          exact ih66 (p9 + 1) (m2 + 1) (seP gC (a / 6) a) H4 locs _ (by omega) hXs (by rw [hgC]; exact (mf_yes hY2).1) (by have z := (mf_yes hY2).2; omega) hS (by omega) (lv_sub hl [0, 2, 1, 3, 4, 5] rfl)
                        · rw [hr9]
                          have hY2 : ¬ seY (mfG gB (a / 6) a p9) (a / 6) a := by rw [← hgC]; exact hY
                          refine lv_if_eq (tgt := 92) hx hb dX5_pass_85 (by decide) (fun _ => ?_) (fun hno => absurd (rfl) hno)
                          refine lv_iconst (v := nI 0) hx hb dX5_pass_92 (by decide) ?_
                          refine lv_iadd hx hb dX5_pass_93 ?_
                          refine xtop (show ((nI (m2)) + (nI 0)) = nI (m2 + 0) from nI_add m2 0) ?_
                          refine lv_istore_n (lv' := [(2, .int (nI (m2 + 0))), (5, .int (nI (p9))), (4, .int (nI (a))), (3, .int (nI (k))), (0, .ref (b 0)), (1, .int (nI (w)))]) hx hb dX5_pass_94 rfl hl (by decide) rfl (fun ls hl => ?_)
                          refine lv_iinc (v := nI (p9 + 1)) (lv' := [(5, .int (nI (p9 + 1))), (2, .int (nI (m2 + 0))), (4, .int (nI (a))), (3, .int (nI (k))), (0, .ref (b 0)), (1, .int (nI (w)))]) hx hb dX5_pass_95 hl (k := 1) rfl (nI_add p9 1) (by decide) rfl (fun ls hl => ?_)
                          refine lv_goto (tgt := 66) hx hb dX5_pass_98 (by decide) ?_
                          exact ih66 (p9 + 1) (m2 + 0) (seN gC a) H4 locs _ (by omega) hXs (by rw [hgC]; exact (mf_no hY2).1) (by have z := (mf_no hY2).2; omega) hS (by omega) (lv_sub hl [0, 2, 1, 3, 4, 5] rfl)
                  exact LOOP66 _ 0 m1 gB H locs _ (by omega) hXB (mf_0 _ _ _).symm rfl hS (Nat.lt_succ_self _) (lv_sub hl [0, 1, 2, 3, 4, 5] rfl)
            exact LOOP51 _ 0 sold gA H locs _ (by omega) hXA rfl rfl hS (Nat.lt_succ_self _) (lv_sub hl [0, 2, 1, 3, 4] rfl)
      exact LOOP43 _ 0 0 np g1 H1 locs _ (by omega) hX1 (fun t ht => by rw [hg1, thG_t g 0 (by omega)] <;> rfl) rfl rfl (plOK_c hP (by rw [hg1, thG_t g 0 (by omega)]) (by rw [hg1, thG_t g 0 (by omega)]) (by rw [hg1, thG_t g 0 (by omega)]) (by rw [hg1, thG_t g 0 (by omega)])) (fun j hj => by rw [hg1, thG_t g 0 (by omega)]; exact hC j hj) (by rw [hg1]; exact thG_20 g 0) hA.2.2.2 hS (Nat.lt_succ_self _) (lv_sub hl [0, 1, 2, 3] rfl)
    · have c30 : ¬ ((d0 + w) ≤ 999) := fun z => c30 ((nI_leI (a := d0 + w) (b := 999) (by omega) (by omega)).mpr z)
      refine lv_aload_n hx hb dX5_pass_33 rfl (lv_at hl 0 rfl) ?_
      refine lv_iconst (v := nI 2) hx hb dX5_pass_34 (by decide) ?_
      refine xci (va_runV (As := [.int (nI 2)]) (rest := []) ⟨hx, hb, hml, hown, hts⟩ (c_X5_fail l D cA e0 A H1 b g1 tt n np hX1 hA (nI 2)) ⟨(callB_of 1 hts gi_X5_fail rfl rfl rfl (hts _ q_ini_X5) (hts _ q_ml_X5_66) hd_X5_fail ⟨Nat.le_of_ble_eq_true rfl, Nat.le_of_ble_eq_true rfl⟩), hts _ q_im_X5_fail, hts _ q_sel_X5_X5_fail⟩ (xpV hE hS (hX1.main) rfl) rfl rfl hl.1 rfl (lv_room (Nat.le_of_ble_eq_true rfl)) dX5_pass_35 ⟨Nat.le_of_ble_eq_true rfl, Nat.le_of_ble_eq_true rfl⟩) hS (fun q h => h) (fun r_5 H5 locs hP9 hz9 hk9 hS => ?_)
      obtain ⟨hr9, hXf⟩ := hP9
      have hXf : yW D cA b (thG g 2) tt n np H5 := by rw [← thG_2 g 0 2, ← hg1]; exact hXf
      have hpost : (fun r h => ((okR 1 30 (nI w) ∧ sumI (g 13 0) (nI w) ≤ 999) ∧ r = nI (psS n g np (cl (nI w))).2.2 ∧ ∃ g2, yW D cA b g2 tt n (psS n g np (cl (nI w))).2.1 h ∧ eqT (psS n g np (cl (nI w))).1 g2 ∧ plOK g2 (psS n g np (cl (nI w))).2.1 ∧ chS g2 n (psS n g np (cl (nI w))).2.1 ∧ g2 20 0 = nI 0) ∨ (¬ okR 1 30 (nI w) ∧ yW D cA b (thG g 1) tt n np h) ∨ (okR 1 30 (nI w) ∧ ¬ (sumI (g 13 0) (nI w) ≤ 999) ∧ yW D cA b (thG g 2) tt n np h)) (r_5) H5 := by
        exact Or.inr (Or.inr ⟨⟨w, hw1, hw30, rfl⟩, fun z => c30 (by unfold sumI at z; rw [hdd, nI_toInt (by omega), nI_toInt (by omega)] at z; omega), hXf⟩)
      refine W.widen (k := 0) (n := 0) (by omega) (by omega) ?_
      exact W.iret (v := r_5) hx hb hr (fun t ht _ => ⟨⟨r_5, H5, rfl, hpost, ht⟩, hS.F ht⟩) hS.2.2 dX5_pass_38
  · refine lv_aload_n hx hb dX5_pass_15 rfl (lv_at hl 0 rfl) ?_
    refine lv_iconst (v := nI 1) hx hb dX5_pass_16 (by decide) ?_
    refine xci (va_runV (As := [.int (nI 1)]) (rest := []) ⟨hx, hb, hml, hown, hts⟩ (c_X5_fail l D cA e0 A H1 b g1 tt n np hX1 hA (nI 1)) ⟨(callB_of 1 hts gi_X5_fail rfl rfl rfl (hts _ q_ini_X5) (hts _ q_ml_X5_66) hd_X5_fail ⟨Nat.le_of_ble_eq_true rfl, Nat.le_of_ble_eq_true rfl⟩), hts _ q_im_X5_fail, hts _ q_sel_X5_X5_fail⟩ (xpV hE hS (hX1.main) rfl) rfl rfl hl.1 rfl (lv_room (Nat.le_of_ble_eq_true rfl)) dX5_pass_17 ⟨Nat.le_of_ble_eq_true rfl, Nat.le_of_ble_eq_true rfl⟩) hS (fun q h => h) (fun r_6 H6 locs hP9 hz9 hk9 hS => ?_)
    obtain ⟨hr9, hXf⟩ := hP9
    have hXf : yW D cA b (thG g 1) tt n np H6 := by rw [← thG_2 g 0 1, ← hg1]; exact hXf
    have hpost : (fun r h => ((okR 1 30 v ∧ sumI (g 13 0) v ≤ 999) ∧ r = nI (psS n g np (cl v)).2.2 ∧ ∃ g2, yW D cA b g2 tt n (psS n g np (cl v)).2.1 h ∧ eqT (psS n g np (cl v)).1 g2 ∧ plOK g2 (psS n g np (cl v)).2.1 ∧ chS g2 n (psS n g np (cl v)).2.1 ∧ g2 20 0 = nI 0) ∨ (¬ okR 1 30 v ∧ yW D cA b (thG g 1) tt n np h) ∨ (okR 1 30 v ∧ ¬ (sumI (g 13 0) v ≤ 999) ∧ yW D cA b (thG g 2) tt n np h)) (r_6) H6 := by
      exact Or.inr (Or.inl ⟨fun z => (in_0.mp c12) ((ou_r (a := 1) (b := 30) (by omega) (by omega)).mpr z), hXf⟩)
    refine W.widen (k := 0) (n := 0) (by omega) (by omega) ?_
    exact W.iret (v := r_6) hx hb hr (fun t ht _ => ⟨⟨r_6, H6, rfl, hpost, ht⟩, hS.F ht⟩) hS.2.2 dX5_pass_20
