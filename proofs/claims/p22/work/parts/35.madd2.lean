/-! The class: a machine added (by p35.py) -/
theorem ma_f {f : Nat → Nat} {n q : Nat} : va_up (fun j => if j < n then some (f j) else none) n (some q) = fun j => if j < n + 1 then some (va_up f n q j) else none := pl_f
set_option maxHeartbeats 4000000 in
set_option maxRecDepth 100000 in
/-- addMachine(v) -/
theorem c_X4_addMachine (l : Launch) (D : va_G) (cA : Nat → ClassId) (e0 : Nat) (A : Nat → Prop) (H0 : Heap) (ad : Nat → Nat → Nat) (g : Nat → Nat → Int32) (tt : Nat → Int64) (N : Nat → Nat) (hX : xW D cA ad g tt N H0) (v : Int32) (hA : xA A e0 ad N) (hAn : ∀ q, H0.size ≤ q → A q) (hl9 : l.stackTraces = false) (hdf : dfl g (N 0)) (hC : chOK g (N 0) (N 1)) (hN2x : N 2 = 0 ∨ N 2 = 10) : vx_Met l yX4_addMachine w_X4_addMachine ({ frames := 7, cells := 9, slots := 56, locals := 171 } : Room) (xPc D cA e0 A H0 [.ref (ad 0 0), .int (v)]) (xQi (fun r h => okR 100 100000 v ∧ N 0 < 8 ∧ r = nI (N 0) ∧ ∃ ad2 g2, xW D cA ad2 g2 tt (amN' N) h ∧ xA A e0 ad2 (amN' N) ∧ ad2 0 0 = ad 0 0 ∧ (∀ t, t ≠ 17 → g2 t = amG g (N 0) v t) ∧ hwAll g2 (N 0 + 1)) A) (xX (fun E => (E = xIAE ∧ ¬ okR 100 100000 v) ∨ (E = xISE ∧ okR 100 100000 v ∧ ¬ N 0 < 8))) 9 56 (A) := by
  refine vx_ofW (cc := cX4_addMachine) (maxL := 2) (ret := (some .int)) (by decide) rfl ?_
  intro p e s m args below meth c s₁ B hml hxt hv
  obtain ⟨rfl, hH, hE⟩ := hv
  subst hH
  have hx := B.exec
  have hb := B.bytes
  have hr := B.returns
  have hts := hE.1.all ([.ref (ad 0 0), .int (v)] : List Value).toArray
  have hown : s.vm.findClass RX4 = some m.cls := findClass_of_methodNamed B.named
  have hlocks := B.notSynchronized
  have hK := hE.2.1
  have hS : va_S A s.heap s.heap [] := va_S.rf
  have hl := lv_entry ([.ref (ad 0 0), .int (v)]) (n := 2) (Nat.le_of_ble_eq_true rfl)
  rw [lg_entry_eq]
  generalize (lg_sl ([.ref (ad 0 0), .int (v)]) ++ List.replicate (2 - (lg_sl ([.ref (ad 0 0), .int (v)])).length) Slot.unset).toArray = ls at hl ⊢
  have hl : lv_has ls 2 [(0, .ref (ad 0 0)), (1, .int (v))] := hl
  have hn8 := hA.n8
  refine lv_iload_n hx hb dX4_addMachine_0 rfl (lv_at hl 1 rfl) ?_
  refine lv_bipush (v := nI 100) hx hb dX4_addMachine_1 (by decide) ?_
  refine lv_ldc (v := nI 100000) hx hb hown (hts _ q_ko_X4_36) dX4_addMachine_3 ?_
  refine xcRi (va_runS (As := [.int (v), .int (nI 100), .int (nI 100000)]) (rest := []) ⟨hx, hb, hml, hown, hts⟩ (c_X4_outside l D cA e0 A s.heap v (nI 100) (nI 100000)) ⟨(callB_of 3 hts gi_X4_outside rfl rfl rfl (hts _ q_ini_X4) (hts _ q_ml_X4_37) hd_X4_outside ⟨Nat.le_of_ble_eq_true rfl, Nat.le_of_ble_eq_true rfl⟩), hts _ q_st_X4_outside⟩ (xpS hE hS) rfl rfl hl.1 rfl (lv_room (Nat.le_of_ble_eq_true rfl)) dX4_addMachine_5 ⟨Nat.le_of_ble_eq_true rfl, Nat.le_of_ble_eq_true rfl⟩) ?_
  refine lv_if_eq (tgt := 21) hx hb dX4_addMachine_8 (by decide) (fun c8 => ?_) (fun c8 => ?_)
  · refine lv_aload_n hx hb dX4_addMachine_21 rfl (lv_at hl 0 rfl) ?_
    refine va_get (D := D) (ci := 5) (v := .ref (ad 0 1)) (C := RX4) (T := TX4) (N := 11) hx hb hts qi_X4 hown hK (xP1 (hX.main)) 0 rfl rfl 0 (by decide) (hts _ q_fl_X4_10) (fun _ h9 => h9) rfl dX4_addMachine_22 ?_
    refine xcRi (va_runV (As := []) (rest := []) ⟨hx, hb, hml, hown, hts⟩ (c_Jx4a65c_size_8abf5 l D cA e0 A s.heap (ad 0 1) (g 18 0) (ad 0 9) (nI (N 0)) (hX.ml)) ⟨(callB_of 0 hts gi_Jx4a65c_size_8abf5 rfl rfl rfl (hts _ q_ini_Jx4a65c) (hts _ q_ml_X4_48) hd_Jx4a65c_size_8abf5 ⟨Nat.le_of_ble_eq_true rfl, Nat.le_of_ble_eq_true rfl⟩), hts _ q_im_Jx4a65c_size_8abf5, hts _ q_sel_Jx4a65c_Jx4a65c_size_8abf5⟩ (xpV hE hS (hX.ml) rfl) rfl rfl hl.1 rfl (lv_room (Nat.le_of_ble_eq_true rfl)) dX4_addMachine_25 ⟨Nat.le_of_ble_eq_true rfl, Nat.le_of_ble_eq_true rfl⟩) ?_
    refine lv_bipush (v := nI 8) hx hb dX4_addMachine_28 (by decide) ?_
    refine lv_icmp_lt (tgt := 43) hx hb dX4_addMachine_30 (by decide) (fun c30 => ?_) (fun c30 => ?_)
    · have c30 : (N 0) < 8 := (nI_ltI (a := N 0) (b := 8) (by omega) (by omega)).mp c30
      refine lv_aload_n hx hb dX4_addMachine_43 rfl (lv_at hl 0 rfl) ?_
      refine va_get (D := D) (ci := 5) (v := .ref (ad 0 1)) (C := RX4) (T := TX4) (N := 11) hx hb hts qi_X4 hown hK (xP1 (hX.main)) 0 rfl rfl 0 (by decide) (hts _ q_fl_X4_10) (fun _ h9 => h9) rfl dX4_addMachine_44 ?_
      refine xnew (D := D) (ci := 1) (fs := [.int 0, .null, .int 0, .int 0]) (C := RX0) (T := TX0) (N := 4) hx hb hts qi_X0 tyX0 tyX0_ok hown (hts _ q_cl_X4_57) (hts _ q_mk_X0) (hts _ q_ini_X0) hK hS rfl (fun j hj => by rcases (show j = 0 ∨ j = 1 ∨ j = 2 ∨ j = 3 by omega) with rfl | rfl | rfl | rfl <;> rfl) (Nat.le_of_ble_eq_true rfl) (Nat.le_of_ble_eq_true rfl) dX4_addMachine_47 (fun q1 H1 hN hS => ?_)
      obtain ⟨q, hzq⟩ : ∃ z, z = q1 := ⟨_, rfl⟩
      rw [← hzq] at hN ⊢
      have hAq : A q := hAn q (by have := hN.2.1; omega)
      have hqs : q = s.heap.size := hN.2.1
      have hsz : H1.size = q + 1 := by
        have := hN.2.2.1
        omega
      have hXn := hX.new hN
      have hV := hN.1
      have hS9 := hS
      refine lv_dup hx hb dX4_addMachine_50 rfl ?_
      refine lv_iload_n hx hb dX4_addMachine_51 rfl (lv_at hl 1 rfl) ?_
      have hFm : ∀ z, (z = q ∨ H1.size ≤ z) → A z := fun z hz => hz.elim (fun hz => hz ▸ hAq) (fun hz => hAn z (by have := hS.1; omega))
      refine xcv (va_runI (As := [.int (v)]) (rest := [.ref (q), .ref (ad 0 1)]) ⟨hx, hb, hml, hown, hts⟩ (c_X0_init l D cA e0 (fun z => z = q ∨ H1.size ≤ z) H1 q v hV (Or.inl rfl) (fun z hz => Or.inr hz)) ⟨(callB_of 1 hts gi_X0_init rfl rfl rfl (hts _ q_ini_X0) (hts _ q_ml_X4_59) hd_X0_init ⟨Nat.le_of_ble_eq_true rfl, Nat.le_of_ble_eq_true rfl⟩), rfl, hts _ q_im_X0_init⟩ (xpSn hE hS hFm) rfl rfl hl.1 rfl (lv_room (Nat.le_of_ble_eq_true rfl)) dX4_addMachine_52 ⟨Nat.le_of_ble_eq_true rfl, Nat.le_of_ble_eq_true rfl⟩) hS hFm (fun H2 locs hP9 hz9 hk9 hS => ?_)
      obtain ⟨row, sl, hV, hRw, hSl, hdi, hrow⟩ := hP9
      have hXm : xW D cA ad g tt N H2 := hXn.keep (fun c j hv => hk9 _ (hXn.lt hv) (fun z => z.elim (fun (z : ad c j = q) => by
        have := hX.lt hv
        omega) (fun z => absurd (hXn.lt hv) (by omega))))
      have hS9 := hS
      have hA9 := hA.2.2.2.2.2.1
      rcases hN2x with hc3 | hc3
      · have hql : q < H2.size := hV.lt
        have hrl : row < H2.size := by
          obtain ⟨f9, z, -⟩ := hRw
          exact z.lt
        have hqo : ∀ c j, xV N c j → ad c j < q := fun c j hv => by
          have := hX.lt hv
          omega
        have hq2 : q ≠ ad 0 1 := fun z => by
          have := hqo 0 1 (xV0 (by omega))
          omega
        have hd10 := hA.2.2.1 hc3
        have hn1 : N 0 = 0 := by omega
        have hLe : va_at D vwCl (ad 0 1, .inr (0, [.int (g 18 0), .ref e0, .int (nI 0)])) H2 := by
          have z := hXm.ml
          rw [hd10, hn1] at z
          exact z
        have hFA : ∀ z, xF2h (ad 0 1) H2.size z → A z := fun z hz => hz.elim (fun hz => hz ▸ hA.a (xV0 (by omega))) (fun hz => hAn z (by have := hS.1; omega))
        have hNF : ∀ z, q ≤ z → z < H2.size → ¬ xF2h (ad 0 1) H2.size z := fun z h1 h2 k => k.elim (fun k => by have := hqo 0 1 (xV0 (by omega)); omega) (fun k => by omega)
        refine xci (va_runV (As := [.ref (q)]) (rest := []) ⟨hx, hb, hml, hown, hts⟩ (c_Jx4a65c_add_9ea2d_e l D cA e0 (xF2h (ad 0 1) H2.size) H2 (ad 0 1) (g 18 0) hLe (Or.inl rfl) (fun z hz => Or.inr hz) (RX0, TX0, 4) 1 rfl q_ca_X0_java_lang_Object q _ hV hq2 (hNF q (Nat.le_refl _) hql)) ⟨(callB_of 1 hts gi_Jx4a65c_add_9ea2d rfl rfl rfl (hts _ q_ini_Jx4a65c) (hts _ q_ml_X4_62) hd_Jx4a65c_add_9ea2d ⟨Nat.le_of_ble_eq_true rfl, Nat.le_of_ble_eq_true rfl⟩), hts _ q_im_Jx4a65c_add_9ea2d, hts _ q_sel_Jx4a65c_Jx4a65c_add_9ea2d⟩ (xpVn hE hS hFA hLe rfl) rfl rfl hl.1 rfl (lv_room (Nat.le_of_ble_eq_true rfl)) dX4_addMachine_55 ⟨Nat.le_of_ble_eq_true rfl, Nat.le_of_ble_eq_true rfl⟩) hS hFA (fun r_3 H3 locs hP9 hz9 hk9 hS => ?_)
        obtain ⟨d2, hd2, hLn, hFn⟩ := hP9
        have hfn : va_up (fun _ => none) 0 (some q) = fun j => if j < N 0 + 1 then some (va_up (ad 1) (N 0) q j) else none := by
          rw [← ma_f, hn1]
          rfl
        rw [hfn] at hFn
        have hLn : va_at D vwCl (ad 0 1, .inr (0, [.int (g 18 0 + nI 1), .ref d2, .int (nI (N 0 + 1))])) H3 := by
          rw [hn1]
          exact hLn
        have hQn := hV.kept (hk9 _ hql (hNF q (Nat.le_refl _) hql))
        have hRn : ∃ f, va_at D vwCl (row, .inl (cA 3, 6, .inr (.inr (.inr (.inr f))))) H3 ∧ ∀ i, i < 6 → f i = some (sl i) := by
          obtain ⟨f9, z1, z2⟩ := hRw
          exact ⟨f9, z1.kept (hk9 _ hrl (hNF row (by omega) hrl)), z2⟩
        have hSn : ∀ i, i < 6 → va_at D vwCl (sl i, .inr (4, [.int 0, .int 0, .int (nI 100), .int 0, .int 0, .int 0])) H3 := fun i hi => (hSl i hi).2.2.kept (hk9 _ (hSl i hi).2.2.lt (hNF _ (by have := (hSl i hi).1; omega) (hSl i hi).2.2.lt))
        have hX2 := xW.addM hXm hdf hC c30 hLn hQn hRn hSn hFn (fun c j hv n2 n10 => hk9 _ (hXm.lt hv) (fun z => z.elim (fun z => n2 (hA.1 c j 0 1 hv (xV0 (by omega)) z)) (fun z => absurd (hXm.lt hv) (by omega))))
        have hA2 := xA.addM (q := q) (row := row) (d2 := d2) (sl := sl) hA hX (by omega) (by omega) (fun i hi => ⟨by have := (hSl i hi).1; omega, (hSl i hi).2.1⟩) hdi hAq (hAn row (by omega)) (fun i hi => hAn _ (by have := (hSl i hi).1; omega)) (hAn d2 (by have := hS9.1; omega)) ⟨by omega, by omega, fun i hi => by have := (hSl i hi).2.2.lt; omega⟩ (Or.inr (by omega)) c30
        obtain ⟨ad2, had2⟩ : ∃ z, z = amA ad (N 0) q row d2 sl := ⟨_, rfl⟩
        obtain ⟨N2, hN2⟩ : ∃ z, z = amN' N := ⟨_, rfl⟩
        rw [← had2, ← hN2] at hX2 hA2
        have e00 : ad2 0 0 = ad 0 0 := by rw [had2]; exact amA_o (by omega) (by omega) (by omega) (by omega)
        rw [← e00] at hl
        obtain ⟨g2, hg2⟩ : ∃ z, z = amG g (N 0) v := ⟨_, rfl⟩
        rw [← hg2] at hX2
        refine lv_pop hx hb dX4_addMachine_58 rfl ?_
        refine lv_aload_n hx hb dX4_addMachine_59 rfl (lv_at hl 0 rfl) ?_
        refine va_get (D := D) (ci := 5) (v := .ref (ad2 0 3)) (C := RX4) (T := TX4) (N := 11) hx hb hts qi_X4 hown hK (xP1 (hX2.main)) 0 rfl rfl 2 (by decide) (hts _ q_fl_X4_22) (fun _ h9 => h9) rfl dX4_addMachine_60 ?_
        refine lv_aload_n hx hb dX4_addMachine_63 rfl (lv_at hl 0 rfl) ?_
        refine va_get (D := D) (ci := 5) (v := .ref (ad2 0 1)) (C := RX4) (T := TX4) (N := 11) hx hb hts qi_X4 hown hK (xP1 (hX2.main)) 0 rfl rfl 0 (by decide) (hts _ q_fl_X4_10) (fun _ h9 => h9) rfl dX4_addMachine_64 ?_
        refine xcRi (va_runV (As := []) (rest := [.ref (ad2 0 3)]) ⟨hx, hb, hml, hown, hts⟩ (c_Jx4a65c_size_8abf5 l D cA e0 A H3 (ad2 0 1) (g2 18 0) (ad2 0 9) (nI (N2 0)) (hX2.ml)) ⟨(callB_of 0 hts gi_Jx4a65c_size_8abf5 rfl rfl rfl (hts _ q_ini_Jx4a65c) (hts _ q_ml_X4_48) hd_Jx4a65c_size_8abf5 ⟨Nat.le_of_ble_eq_true rfl, Nat.le_of_ble_eq_true rfl⟩), hts _ q_im_Jx4a65c_size_8abf5, hts _ q_sel_Jx4a65c_Jx4a65c_size_8abf5⟩ (xpV hE hS (hX2.ml) rfl) rfl rfl hl.1 rfl (lv_room (Nat.le_of_ble_eq_true rfl)) dX4_addMachine_67 ⟨Nat.le_of_ble_eq_true rfl, Nat.le_of_ble_eq_true rfl⟩) ?_
        refine xcv (va_runV (As := [.int (nI (N2 0))]) (rest := []) ⟨hx, hb, hml, hown, hts⟩ (c_X2_measureTours l D cA e0 A H3 ad2 g2 tt N2 hX2 hA2) ⟨(callB_of 1 hts gi_X2_measureTours rfl rfl rfl (hts _ q_ini_X2) (hts _ q_ml_X4_66) hd_X2_measureTours ⟨Nat.le_of_ble_eq_true rfl, Nat.le_of_ble_eq_true rfl⟩), hts _ q_im_X2_measureTours, hts _ q_sel_X2_X2_measureTours⟩ (xpV hE hS (hX2.roads) rfl) rfl rfl hl.1 rfl (lv_room (Nat.le_of_ble_eq_true rfl)) dX4_addMachine_70 ⟨Nat.le_of_ble_eq_true rfl, Nat.le_of_ble_eq_true rfl⟩) hS (fun q h => h) (fun H4 locs hP9 hz9 hk9 hS => ?_)
        obtain ⟨g3, hX3, hf3, hw3⟩ := hP9
        refine lv_aload_n hx hb dX4_addMachine_73 rfl (lv_at hl 0 rfl) ?_
        refine va_get (D := D) (ci := 5) (v := .ref (ad2 0 1)) (C := RX4) (T := TX4) (N := 11) hx hb hts qi_X4 hown hK (xP1 (hX3.main)) 0 rfl rfl 0 (by decide) (hts _ q_fl_X4_10) (fun _ h9 => h9) rfl dX4_addMachine_74 ?_
        refine xcRi (va_runV (As := []) (rest := []) ⟨hx, hb, hml, hown, hts⟩ (c_Jx4a65c_size_8abf5 l D cA e0 A H4 (ad2 0 1) (g3 18 0) (ad2 0 9) (nI (N2 0)) (hX3.ml)) ⟨(callB_of 0 hts gi_Jx4a65c_size_8abf5 rfl rfl rfl (hts _ q_ini_Jx4a65c) (hts _ q_ml_X4_48) hd_Jx4a65c_size_8abf5 ⟨Nat.le_of_ble_eq_true rfl, Nat.le_of_ble_eq_true rfl⟩), hts _ q_im_Jx4a65c_size_8abf5, hts _ q_sel_Jx4a65c_Jx4a65c_size_8abf5⟩ (xpV hE hS (hX3.ml) rfl) rfl rfl hl.1 rfl (lv_room (Nat.le_of_ble_eq_true rfl)) dX4_addMachine_77 ⟨Nat.le_of_ble_eq_true rfl, Nat.le_of_ble_eq_true rfl⟩) ?_
        refine lv_iconst (v := nI 1) hx hb dX4_addMachine_80 (by decide) ?_
        refine lv_isub hx hb dX4_addMachine_81 ?_
        refine xtop (show ((nI (N2 0)) - (nI 1)) = nI (N 0) from by rw [hN2, amN_0, pk_sub (by omega), show N 0 + 1 - 1 = N 0 by omega]) ?_
        refine vx_ret ?_
        have hpost : (fun r h => okR 100 100000 v ∧ N 0 < 8 ∧ r = nI (N 0) ∧ ∃ ad2 g2, xW D cA ad2 g2 tt (amN' N) h ∧ xA A e0 ad2 (amN' N) ∧ ad2 0 0 = ad 0 0 ∧ (∀ t, t ≠ 17 → g2 t = amG g (N 0) v t) ∧ hwAll g2 (N 0 + 1)) (nI (N 0)) H4 := by
          refine ⟨(ou_r (a := 100) (b := 100000) (by omega) (by omega)).mp c8, c30, rfl, ad2, g3, ?_, ?_, e00, fun t ht => (hf3 t ht).trans (congrFun hg2 t), ?_⟩
          · rw [← hN2]
            exact hX3
          · rw [← hN2]
            exact hA2
          · have z := hw3
            rw [hN2, amN_0] at z
            exact z
        refine W.widen (k := 9) (n := 56) (by omega) (by omega) ?_
        exact W.iret (v := (nI (N 0))) hx hb hr (fun t ht _ => ⟨⟨(nI (N 0)), H4, rfl, hpost, ht⟩, hS.F ht⟩) hS.2.2 dX4_addMachine_82
      · have hql : q < H2.size := hV.lt
        have hrl : row < H2.size := by
          obtain ⟨f9, z, -⟩ := hRw
          exact z.lt
        have hqo : ∀ c j, xV N c j → ad c j < q := fun c j hv => by
          have := hX.lt hv
          omega
        have hq2 : q ≠ ad 0 1 := fun z => by
          have := hqo 0 1 (xV0 (by omega))
          omega
        have hN3 : 0 < N 2 := by omega
        have hq10 : q ≠ ad 0 9 := fun z => by
          have := hqo 0 9 (xV9 hN3)
          omega
        have hne : ad 0 1 ≠ ad 0 9 := fun z => absurd (hA.1 0 1 0 9 (xV0 (by omega)) (xV9 hN3) z).2 (by omega)
        have hFA : ∀ z, xF3 (ad 0 1) (ad 0 9) H2.size z → A z := fun z hz => hz.elim (fun hz => hz ▸ hA.a (xV0 (by omega))) (fun hz => hz.elim (fun hz => hz ▸ hA.a (xV9 hN3)) (fun hz => hAn z (by have := hS.1; omega)))
        have hNF : ∀ z, q ≤ z → z < H2.size → ¬ xF3 (ad 0 1) (ad 0 9) H2.size z := fun z h1 h2 k => k.elim (fun k => by have := hqo 0 1 (xV0 (by omega)); omega) (fun k => k.elim (fun k => by have := hqo 0 9 (xV9 hN3); omega) (fun k => by omega))
        refine xci (va_runV (As := [.ref (q)]) (rest := []) ⟨hx, hb, hml, hown, hts⟩ (c_Jx4a65c_add_9ea2d_r l D cA e0 (xF3 (ad 0 1) (ad 0 9) H2.size) H2 (ad 0 1) (g 18 0) (ad 0 9) (N 0) (N 2) (hXm.ml) (Or.inl rfl) (fun j => if j < N 0 then some (ad 1 j) else none) (hXm.md hN3) (Or.inr (Or.inl rfl)) hne (RX0, TX0, 4) 1 rfl q_ca_X0_java_lang_Object (by omega) (by omega) q _ hV hq2 (hNF q (Nat.le_refl _) hql)) ⟨(callB_of 1 hts gi_Jx4a65c_add_9ea2d rfl rfl rfl (hts _ q_ini_Jx4a65c) (hts _ q_ml_X4_62) hd_Jx4a65c_add_9ea2d ⟨Nat.le_of_ble_eq_true rfl, Nat.le_of_ble_eq_true rfl⟩), hts _ q_im_Jx4a65c_add_9ea2d, hts _ q_sel_Jx4a65c_Jx4a65c_add_9ea2d⟩ (xpVn hE hS hFA (hXm.ml) rfl) rfl rfl hl.1 rfl (lv_room (Nat.le_of_ble_eq_true rfl)) dX4_addMachine_55 ⟨Nat.le_of_ble_eq_true rfl, Nat.le_of_ble_eq_true rfl⟩) hS hFA (fun r_5 H5 locs hP9 hz9 hk9 hS => ?_)
        obtain ⟨hLn, hFn⟩ := hP9
        rw [ma_f, hc3] at hFn
        have hQn := hV.kept (hk9 _ hql (hNF q (Nat.le_refl _) hql))
        have hRn : ∃ f, va_at D vwCl (row, .inl (cA 3, 6, .inr (.inr (.inr (.inr f))))) H5 ∧ ∀ i, i < 6 → f i = some (sl i) := by
          obtain ⟨f9, z1, z2⟩ := hRw
          exact ⟨f9, z1.kept (hk9 _ hrl (hNF row (by omega) hrl)), z2⟩
        have hSn : ∀ i, i < 6 → va_at D vwCl (sl i, .inr (4, [.int 0, .int 0, .int (nI 100), .int 0, .int 0, .int 0])) H5 := fun i hi => (hSl i hi).2.2.kept (hk9 _ (hSl i hi).2.2.lt (hNF _ (by have := (hSl i hi).1; omega) (hSl i hi).2.2.lt))
        have hX2 := xW.addM hXm hdf hC c30 hLn hQn hRn hSn hFn (fun c j hv n2 n10 => hk9 _ (hXm.lt hv) (fun z => z.elim (fun z => n2 (hA.1 c j 0 1 hv (xV0 (by omega)) z)) (fun z => z.elim (fun z => n10 (hA.1 c j 0 9 hv (xV9 hN3) z)) (fun z => absurd (hXm.lt hv) (by omega)))))
        have hA2 := xA.addM (q := q) (row := row) (d2 := (ad 0 9)) (sl := sl) hA hX (by omega) (by omega) (fun i hi => ⟨by have := (hSl i hi).1; omega, (hSl i hi).2.1⟩) hdi hAq (hAn row (by omega)) (fun i hi => hAn _ (by have := (hSl i hi).1; omega)) (hA.a (xV9 hN3)) ⟨Ne.symm hq10, by have := hqo 0 9 (xV9 hN3); omega, fun i hi => by have := hqo 0 9 (xV9 hN3); have := (hSl i hi).1; omega⟩ (Or.inl ⟨hN3, rfl⟩) c30
        obtain ⟨ad2, had2⟩ : ∃ z, z = amA ad (N 0) q row (ad 0 9) sl := ⟨_, rfl⟩
        obtain ⟨N2, hN2⟩ : ∃ z, z = amN' N := ⟨_, rfl⟩
        rw [← had2, ← hN2] at hX2 hA2
        have e00 : ad2 0 0 = ad 0 0 := by rw [had2]; exact amA_o (by omega) (by omega) (by omega) (by omega)
        rw [← e00] at hl
        obtain ⟨g2, hg2⟩ : ∃ z, z = amG g (N 0) v := ⟨_, rfl⟩
        rw [← hg2] at hX2
        refine lv_pop hx hb dX4_addMachine_58 rfl ?_
        refine lv_aload_n hx hb dX4_addMachine_59 rfl (lv_at hl 0 rfl) ?_
        refine va_get (D := D) (ci := 5) (v := .ref (ad2 0 3)) (C := RX4) (T := TX4) (N := 11) hx hb hts qi_X4 hown hK (xP1 (hX2.main)) 0 rfl rfl 2 (by decide) (hts _ q_fl_X4_22) (fun _ h9 => h9) rfl dX4_addMachine_60 ?_
        refine lv_aload_n hx hb dX4_addMachine_63 rfl (lv_at hl 0 rfl) ?_
        refine va_get (D := D) (ci := 5) (v := .ref (ad2 0 1)) (C := RX4) (T := TX4) (N := 11) hx hb hts qi_X4 hown hK (xP1 (hX2.main)) 0 rfl rfl 0 (by decide) (hts _ q_fl_X4_10) (fun _ h9 => h9) rfl dX4_addMachine_64 ?_
        refine xcRi (va_runV (As := []) (rest := [.ref (ad2 0 3)]) ⟨hx, hb, hml, hown, hts⟩ (c_Jx4a65c_size_8abf5 l D cA e0 A H5 (ad2 0 1) (g2 18 0) (ad2 0 9) (nI (N2 0)) (hX2.ml)) ⟨(callB_of 0 hts gi_Jx4a65c_size_8abf5 rfl rfl rfl (hts _ q_ini_Jx4a65c) (hts _ q_ml_X4_48) hd_Jx4a65c_size_8abf5 ⟨Nat.le_of_ble_eq_true rfl, Nat.le_of_ble_eq_true rfl⟩), hts _ q_im_Jx4a65c_size_8abf5, hts _ q_sel_Jx4a65c_Jx4a65c_size_8abf5⟩ (xpV hE hS (hX2.ml) rfl) rfl rfl hl.1 rfl (lv_room (Nat.le_of_ble_eq_true rfl)) dX4_addMachine_67 ⟨Nat.le_of_ble_eq_true rfl, Nat.le_of_ble_eq_true rfl⟩) ?_
        refine xcv (va_runV (As := [.int (nI (N2 0))]) (rest := []) ⟨hx, hb, hml, hown, hts⟩ (c_X2_measureTours l D cA e0 A H5 ad2 g2 tt N2 hX2 hA2) ⟨(callB_of 1 hts gi_X2_measureTours rfl rfl rfl (hts _ q_ini_X2) (hts _ q_ml_X4_66) hd_X2_measureTours ⟨Nat.le_of_ble_eq_true rfl, Nat.le_of_ble_eq_true rfl⟩), hts _ q_im_X2_measureTours, hts _ q_sel_X2_X2_measureTours⟩ (xpV hE hS (hX2.roads) rfl) rfl rfl hl.1 rfl (lv_room (Nat.le_of_ble_eq_true rfl)) dX4_addMachine_70 ⟨Nat.le_of_ble_eq_true rfl, Nat.le_of_ble_eq_true rfl⟩) hS (fun q h => h) (fun H6 locs hP9 hz9 hk9 hS => ?_)
        obtain ⟨g3, hX3, hf3, hw3⟩ := hP9
        refine lv_aload_n hx hb dX4_addMachine_73 rfl (lv_at hl 0 rfl) ?_
        refine va_get (D := D) (ci := 5) (v := .ref (ad2 0 1)) (C := RX4) (T := TX4) (N := 11) hx hb hts qi_X4 hown hK (xP1 (hX3.main)) 0 rfl rfl 0 (by decide) (hts _ q_fl_X4_10) (fun _ h9 => h9) rfl dX4_addMachine_74 ?_
        refine xcRi (va_runV (As := []) (rest := []) ⟨hx, hb, hml, hown, hts⟩ (c_Jx4a65c_size_8abf5 l D cA e0 A H6 (ad2 0 1) (g3 18 0) (ad2 0 9) (nI (N2 0)) (hX3.ml)) ⟨(callB_of 0 hts gi_Jx4a65c_size_8abf5 rfl rfl rfl (hts _ q_ini_Jx4a65c) (hts _ q_ml_X4_48) hd_Jx4a65c_size_8abf5 ⟨Nat.le_of_ble_eq_true rfl, Nat.le_of_ble_eq_true rfl⟩), hts _ q_im_Jx4a65c_size_8abf5, hts _ q_sel_Jx4a65c_Jx4a65c_size_8abf5⟩ (xpV hE hS (hX3.ml) rfl) rfl rfl hl.1 rfl (lv_room (Nat.le_of_ble_eq_true rfl)) dX4_addMachine_77 ⟨Nat.le_of_ble_eq_true rfl, Nat.le_of_ble_eq_true rfl⟩) ?_
        refine lv_iconst (v := nI 1) hx hb dX4_addMachine_80 (by decide) ?_
        refine lv_isub hx hb dX4_addMachine_81 ?_
        refine xtop (show ((nI (N2 0)) - (nI 1)) = nI (N 0) from by rw [hN2, amN_0, pk_sub (by omega), show N 0 + 1 - 1 = N 0 by omega]) ?_
        refine vx_ret ?_
        have hpost : (fun r h => okR 100 100000 v ∧ N 0 < 8 ∧ r = nI (N 0) ∧ ∃ ad2 g2, xW D cA ad2 g2 tt (amN' N) h ∧ xA A e0 ad2 (amN' N) ∧ ad2 0 0 = ad 0 0 ∧ (∀ t, t ≠ 17 → g2 t = amG g (N 0) v t) ∧ hwAll g2 (N 0 + 1)) (nI (N 0)) H6 := by
          refine ⟨(ou_r (a := 100) (b := 100000) (by omega) (by omega)).mp c8, c30, rfl, ad2, g3, ?_, ?_, e00, fun t ht => (hf3 t ht).trans (congrFun hg2 t), ?_⟩
          · rw [← hN2]
            exact hX3
          · rw [← hN2]
            exact hA2
          · have z := hw3
            rw [hN2, amN_0] at z
            exact z
        refine W.widen (k := 9) (n := 56) (by omega) (by omega) ?_
        exact W.iret (v := (nI (N 0))) hx hb hr (fun t ht _ => ⟨⟨(nI (N 0)), H6, rfl, hpost, ht⟩, hS.F ht⟩) hS.2.2 dX4_addMachine_82
    · have c30 : ¬ ((N 0) < 8) := fun z => c30 ((nI_ltI (a := N 0) (b := 8) (by omega) (by omega)).mpr z)
      exact xthrow (cls := xISE) (text := "there are 8 machines") hx hb hl9 hE hS hown (by decide +kernel) q_cl_X4_52 q_ini_java_lang_IllegalStateException xth_ISE xgd_ISE (by decide) (hl.1.trans hml.symm) dX4_addMachine_33 dX4_addMachine_36 dX4_addMachine_37 dX4_addMachine_39 dX4_addMachine_42 hxt (Nat.le_of_ble_eq_true rfl) (Nat.le_of_ble_eq_true rfl) (Nat.le_of_ble_eq_true rfl) (Nat.le_of_ble_eq_true rfl) hlocks (Or.inr ⟨rfl, (ou_r (a := 100) (b := 100000) (by omega) (by omega)).mp c8, c30⟩) (Nat.le_of_ble_eq_true rfl) (Nat.le_of_ble_eq_true rfl)
  · exact xthrow (cls := xIAE) (text := "the limit is not 100 to 100000") hx hb hl9 hE hS hown (by decide +kernel) q_cl_X4_41 q_ini_java_lang_IllegalArgumentException xth_IAE xgd_IAE (by decide) (hl.1.trans hml.symm) dX4_addMachine_11 dX4_addMachine_14 dX4_addMachine_15 dX4_addMachine_17 dX4_addMachine_20 hxt (Nat.le_of_ble_eq_true rfl) (Nat.le_of_ble_eq_true rfl) (Nat.le_of_ble_eq_true rfl) (Nat.le_of_ble_eq_true rfl) hlocks (Or.inl ⟨rfl, fun z => c8 ((ou_r (a := 100) (b := 100000) (by omega) (by omega)).mpr z)⟩) (Nat.le_of_ble_eq_true rfl) (Nat.le_of_ble_eq_true rfl)
