/-! The class: a price planned (by p33.py) -/
def xF3 (a b h z : Nat) : Prop := z = a ∨ z = b ∨ h ≤ z
def xF2h (a h z : Nat) : Prop := z = a ∨ h ≤ z
theorem pl_f {f : Nat → Nat} {n q : Nat} : va_up (fun j => if j < n then some (f j) else none) n (some q) = fun j => if j < n + 1 then some (va_up f n q j) else none := by
  funext j
  by_cases h : j = n
  · rw [h, up_eq, up_eq, if_pos (by omega)]
  · rw [up_ne h, up_ne h]
    by_cases h2 : j < n
    · rw [if_pos h2, if_pos (by omega)]
    · rw [if_neg h2, if_neg (by omega)]
set_option maxHeartbeats 4000000 in
set_option maxRecDepth 100000 in
/-- planPrice(v, w, x, y) -/
theorem c_X4_planPrice (l : Launch) (D : va_G) (cA : Nat → ClassId) (e0 : Nat) (A : Nat → Prop) (H0 : Heap) (ad : Nat → Nat → Nat) (g : Nat → Nat → Int32) (tt : Nat → Int64) (N : Nat → Nat) (hX : xW D cA ad g tt N H0) (v w x y : Int32) (hA : xA A e0 ad N) (hAn : ∀ q, H0.size ≤ q → A q) (hl9 : l.stackTraces = false) : vx_Met l yX4_planPrice w_X4_planPrice ({ frames := 8, cells := 4, slots := 37, locals := 171 } : Room) (xPc D cA e0 A H0 [.ref (ad 0 0), .int (v), .int (w), .int (x), .int (y)]) (xQi (fun r h => (okS (N 0) v w ∧ (ouI x (g 13 0) (nI 999) = 0 ∧ okR 1 1000 y)) ∧ (x = g 13 0 ∨ N 1 < 20) ∧ ((x = g 13 0 ∧ r = nI (N 1) ∧ xW D cA ad (va_up g 6 (upd (g 6) (6 * cl v + cl w) y)) tt N h) ∨ (¬ x = g 13 0 ∧ r = nI (N 1 + 1) ∧ ∃ q d2 k, xW D cA (plA ad (N 1) q d2) (plG g (N 1) x (nI (6 * cl v + cl w)) y) tt (plN' N k) h ∧ xA A e0 (plA ad (N 1) q d2) (plN' N k)))) A) (xX (fun E => (E = xIOB ∧ ¬ okS (N 0) v w) ∨ (E = xIAE ∧ okS (N 0) v w ∧ ¬ (ouI x (g 13 0) (nI 999) = 0 ∧ okR 1 1000 y)) ∨ (E = xISE ∧ (okS (N 0) v w ∧ (ouI x (g 13 0) (nI 999) = 0 ∧ okR 1 1000 y)) ∧ ¬ (x = g 13 0 ∨ N 1 < 20)))) 4 37 (A) := by
  refine vx_ofW (cc := cX4_planPrice) (maxL := 6) (ret := (some .int)) (by decide) rfl ?_
  intro p e s m args below meth c s₁ B hml hxt hv
  obtain ⟨rfl, hH, hE⟩ := hv
  subst hH
  have hx := B.exec
  have hb := B.bytes
  have hr := B.returns
  have hts := hE.1.all ([.ref (ad 0 0), .int (v), .int (w), .int (x), .int (y)] : List Value).toArray
  have hown : s.vm.findClass RX4 = some m.cls := findClass_of_methodNamed B.named
  have hlocks := B.notSynchronized
  have hK := hE.2.1
  have hS : va_S A s.heap s.heap [] := va_S.rf
  have hl := lv_entry ([.ref (ad 0 0), .int (v), .int (w), .int (x), .int (y)]) (n := 6) (Nat.le_of_ble_eq_true rfl)
  rw [lg_entry_eq]
  generalize (lg_sl ([.ref (ad 0 0), .int (v), .int (w), .int (x), .int (y)]) ++ List.replicate (6 - (lg_sl ([.ref (ad 0 0), .int (v), .int (w), .int (x), .int (y)])).length) Slot.unset).toArray = ls at hl ⊢
  have hl : lv_has ls 6 [(0, .ref (ad 0 0)), (1, .int (v)), (2, .int (w)), (3, .int (x)), (4, .int (y))] := hl
  have hn8 := hA.n8
  have hn20 := hA.2.2.2.2.2.2.2.1
  refine lv_aload_n hx hb dX4_planPrice_0 rfl (lv_at hl 0 rfl) ?_
  refine lv_iload_n hx hb dX4_planPrice_1 rfl (lv_at hl 1 rfl) ?_
  refine lv_iload_n hx hb dX4_planPrice_2 rfl (lv_at hl 2 rfl) ?_
  refine xcXr (vx_runV (As := [.int (v), .int (w)]) (rest := []) ⟨hx, hb, hml, hown, hts⟩ (c_X4_slotAt l D cA e0 A s.heap ad g tt N hX v w hA hl9) ⟨(callB_of 2 hts gi_X4_slotAt rfl rfl rfl (hts _ q_ini_X4) (hts _ q_ml_X4_90) hd_X4_slotAt ⟨Nat.le_of_ble_eq_true rfl, Nat.le_of_ble_eq_true rfl⟩), hts _ q_im_X4_slotAt, hts _ q_sel_X4_X4_slotAt⟩ (xpV hE hS (hX.main) rfl) rfl rfl hl.1 rfl (lv_room (Nat.le_of_ble_eq_true rfl)) dX4_planPrice_3 ⟨Nat.le_of_ble_eq_true rfl, Nat.le_of_ble_eq_true rfl⟩) hS (fun q h => h) (fun E9 ce9 q9 H9 locs9 hPX9 hz9 hk9 hS9 hc9 hv9 hcl9 => ?_) (fun r9_1 H1 locs hP9 hz9 hk9 hS => ?_)
  · exact vx_out (fun x h => (hxt x h).elim) hlocks hc9 hv9 hcl9 (fun t ht _ => ⟨(), trivial, Or.inl hPX9, by rw [ht]; exact hz9, fun q hq _ => by rw [ht]; exact hk9 q hq⟩) hS9.2.2 (Nat.le_of_ble_eq_true rfl) (Nat.le_of_ble_eq_true rfl)
  obtain ⟨rfl, i0, j0, hi0, hj0, rfl, rfl, rfl⟩ := hP9
  refine lv_astore (lv' := [(5, .ref (ad 3 (6 * i0 + j0))), (0, .ref (ad 0 0)), (1, .int (nI (i0))), (2, .int (nI (j0))), (3, .int (x)), (4, .int (y))]) hx hb dX4_planPrice_6 hl (by decide) rfl (fun ls hl => ?_)
  refine lv_iload_n hx hb dX4_planPrice_8 rfl (lv_at hl 4 rfl) ?_
  refine lv_aload_n hx hb dX4_planPrice_9 rfl (lv_at hl 1 rfl) ?_
  refine va_get (D := D) (ci := 5) (v := .int (g 13 0)) (C := RX4) (T := TX4) (N := 11) hx hb hts qi_X4 hown hK (xP1 (hX.main)) 0 rfl rfl 6 (by decide) (hts _ q_fl_X4_115) (fun _ h9 => h9) rfl dX4_planPrice_10 ?_
  refine lv_sipush (v := nI 999) hx hb dX4_planPrice_13 (by decide) ?_
  refine xcRi (va_runS (As := [.int (x), .int (g 13 0), .int (nI 999)]) (rest := []) ⟨hx, hb, hml, hown, hts⟩ (c_X4_outside l D cA e0 A s.heap x (g 13 0) (nI 999)) ⟨(callB_of 3 hts gi_X4_outside rfl rfl rfl (hts _ q_ini_X4) (hts _ q_ml_X4_37) hd_X4_outside ⟨Nat.le_of_ble_eq_true rfl, Nat.le_of_ble_eq_true rfl⟩), hts _ q_st_X4_outside⟩ (xpS hE hS) rfl rfl hl.1 rfl (lv_room (Nat.le_of_ble_eq_true rfl)) dX4_planPrice_16 ⟨Nat.le_of_ble_eq_true rfl, Nat.le_of_ble_eq_true rfl⟩) ?_
  refine lv_if_eq (tgt := 32) hx hb dX4_planPrice_19 (by decide) (fun c19 => ?_) (fun c19 => ?_)
  · refine lv_iload hx hb dX4_planPrice_32 (lv_at hl 5 rfl) ?_
    refine lv_iconst (v := nI 1) hx hb dX4_planPrice_34 (by decide) ?_
    refine lv_sipush (v := nI 1000) hx hb dX4_planPrice_35 (by decide) ?_
    refine xcRi (va_runS (As := [.int (y), .int (nI 1), .int (nI 1000)]) (rest := []) ⟨hx, hb, hml, hown, hts⟩ (c_X4_outside l D cA e0 A s.heap y (nI 1) (nI 1000)) ⟨(callB_of 3 hts gi_X4_outside rfl rfl rfl (hts _ q_ini_X4) (hts _ q_ml_X4_37) hd_X4_outside ⟨Nat.le_of_ble_eq_true rfl, Nat.le_of_ble_eq_true rfl⟩), hts _ q_st_X4_outside⟩ (xpS hE hS) rfl rfl hl.1 rfl (lv_room (Nat.le_of_ble_eq_true rfl)) dX4_planPrice_38 ⟨Nat.le_of_ble_eq_true rfl, Nat.le_of_ble_eq_true rfl⟩) ?_
    refine lv_if_eq (tgt := 54) hx hb dX4_planPrice_41 (by decide) (fun c41 => ?_) (fun c41 => ?_)
    · refine lv_iload_n hx hb dX4_planPrice_54 rfl (lv_at hl 4 rfl) ?_
      refine lv_aload_n hx hb dX4_planPrice_55 rfl (lv_at hl 1 rfl) ?_
      refine va_get (D := D) (ci := 5) (v := .int (g 13 0)) (C := RX4) (T := TX4) (N := 11) hx hb hts qi_X4 hown hK (xP1 (hX.main)) 0 rfl rfl 6 (by decide) (hts _ q_fl_X4_115) (fun _ h9 => h9) rfl dX4_planPrice_56 ?_
      refine lv_icmp_ne (tgt := 77) hx hb dX4_planPrice_59 (by decide) (fun c59 => ?_) (fun c59 => ?_)
      · refine lv_aload_n hx hb dX4_planPrice_77 rfl (lv_at hl 1 rfl) ?_
        refine va_get (D := D) (ci := 5) (v := .ref (ad 0 2)) (C := RX4) (T := TX4) (N := 11) hx hb hts qi_X4 hown hK (xP1 (hX.main)) 0 rfl rfl 1 (by decide) (hts _ q_fl_X4_16) (fun _ h9 => h9) rfl dX4_planPrice_78 ?_
        refine xcRi (va_runV (As := []) (rest := []) ⟨hx, hb, hml, hown, hts⟩ (c_Jx4a65c_size_8abf5 l D cA e0 A s.heap (ad 0 2) (g 18 1) (ad 0 10) (nI (N 1)) (hX.cl)) ⟨(callB_of 0 hts gi_Jx4a65c_size_8abf5 rfl rfl rfl (hts _ q_ini_Jx4a65c) (hts _ q_ml_X4_48) hd_Jx4a65c_size_8abf5 ⟨Nat.le_of_ble_eq_true rfl, Nat.le_of_ble_eq_true rfl⟩), hts _ q_im_Jx4a65c_size_8abf5, hts _ q_sel_Jx4a65c_Jx4a65c_size_8abf5⟩ (xpV hE hS (hX.cl) rfl) rfl rfl hl.1 rfl (lv_room (Nat.le_of_ble_eq_true rfl)) dX4_planPrice_81 ⟨Nat.le_of_ble_eq_true rfl, Nat.le_of_ble_eq_true rfl⟩) ?_
        refine lv_bipush (v := nI 20) hx hb dX4_planPrice_84 (by decide) ?_
        refine lv_icmp_lt (tgt := 99) hx hb dX4_planPrice_86 (by decide) (fun c86 => ?_) (fun c86 => ?_)
        · have c86 : (N 1) < 20 := (nI_ltI (a := N 1) (b := 20) (by omega) (by omega)).mp c86
          refine lv_aload_n hx hb dX4_planPrice_99 rfl (lv_at hl 1 rfl) ?_
          refine va_get (D := D) (ci := 5) (v := .ref (ad 0 2)) (C := RX4) (T := TX4) (N := 11) hx hb hts qi_X4 hown hK (xP1 (hX.main)) 0 rfl rfl 1 (by decide) (hts _ q_fl_X4_16) (fun _ h9 => h9) rfl dX4_planPrice_100 ?_
          refine xnew (D := D) (ci := 2) (fs := [.null, .int 0, .int 0]) (C := RX1) (T := TX1) (N := 3) hx hb hts qi_X1 tyX1 tyX1_ok hown (hts _ q_cl_X4_127) (hts _ q_mk_X1) (hts _ q_ini_X1) hK hS rfl (fun j hj => by rcases (show j = 0 ∨ j = 1 ∨ j = 2 by omega) with rfl | rfl | rfl <;> rfl) (Nat.le_of_ble_eq_true rfl) (Nat.le_of_ble_eq_true rfl) dX4_planPrice_103 (fun q2 H2 hN hS => ?_)
          obtain ⟨q, hzq⟩ : ∃ z, z = q2 := ⟨_, rfl⟩
          rw [← hzq] at hN ⊢
          have hAq : A q := hAn q (by have := hN.2.1; omega)
          have hqs : q = s.heap.size := hN.2.1
          have hXn := hX.new hN
          have hV := hN.1
          have hS9 := hS
          refine lv_dup hx hb dX4_planPrice_106 rfl ?_
          refine lv_aload hx hb dX4_planPrice_107 (lv_at hl 0 rfl) ?_
          refine lv_iload_n hx hb dX4_planPrice_109 rfl (lv_at hl 4 rfl) ?_
          refine lv_iload hx hb dX4_planPrice_110 (lv_at hl 5 rfl) ?_
          refine xcv (va_runI (As := [.ref (ad 3 (6 * i0 + j0)), .int (x), .int (y)]) (rest := [.ref (q), .ref (ad 0 2)]) ⟨hx, hb, hml, hown, hts⟩ (c_X1_init l D cA e0 (fun z => z = q) H2 q hV rfl (ad 3 (6 * i0 + j0)) x y) ⟨(callB_of 3 hts gi_X1_init rfl rfl rfl (hts _ q_ini_X1) (hts _ q_ml_X4_129) hd_X1_init ⟨Nat.le_of_ble_eq_true rfl, Nat.le_of_ble_eq_true rfl⟩), rfl, hts _ q_im_X1_init⟩ (xpSn hE hS (fun z h => h ▸ hAq)) rfl rfl hl.1 rfl (lv_room (Nat.le_of_ble_eq_true rfl)) dX4_planPrice_112 ⟨Nat.le_of_ble_eq_true rfl, Nat.le_of_ble_eq_true rfl⟩) hS (fun z h => h ▸ hAq) (fun H3 locs hP9 hz9 hk9 hS => ?_)
          have hV := hP9
          have hXm : xW D cA ad g tt N H3 := hXn.keep (fun c j hv => hk9 _ (hXn.lt hv) (fun (z : ad c j = q) => by
            have := hX.lt hv
            omega))
          have hS9 := hS
          have hz8 := hz9
          have hA9 := hA.2.2.2.2.2.2.2.2
          rcases (show N 3 = 0 ∨ (0 < N 3 ∧ N 1 < N 3) ∨ (0 < N 3 ∧ N 1 = N 3) by omega) with hc3 | hc3 | hc3
          · have hql : q < H3.size := hV.lt
            have hqo : ∀ c j, xV N c j → ad c j < q := fun c j hv => by
              have := hX.lt hv
              omega
            have hq2 : q ≠ ad 0 2 := fun z => by
              have := hqo 0 2 (xV0 (by omega))
              omega
            have hd10 := hA.2.2.2.1 hc3
            have hn1 : N 1 = 0 := by omega
            have hLe : va_at D vwCl (ad 0 2, .inr (0, [.int (g 18 1), .ref e0, .int (nI 0)])) H3 := by
              have z := hXm.cl
              rw [hd10, hn1] at z
              exact z
            have hFA : ∀ z, xF2h (ad 0 2) H3.size z → A z := fun z hz => hz.elim (fun hz => hz ▸ hA.a (xV0 (by omega))) (fun hz => hAn z (by have := hS.1; omega))
            have hNF : ¬ xF2h (ad 0 2) H3.size q := fun z => z.elim hq2 (fun z => by omega)
            refine xci (va_runV (As := [.ref (q)]) (rest := []) ⟨hx, hb, hml, hown, hts⟩ (c_Jx4a65c_add_9ea2d_e l D cA e0 (xF2h (ad 0 2) H3.size) H3 (ad 0 2) (g 18 1) hLe (Or.inl rfl) (fun z hz => Or.inr hz) (RX1, TX1, 3) 2 rfl q_ca_X1_java_lang_Object q _ hV hq2 hNF) ⟨(callB_of 1 hts gi_Jx4a65c_add_9ea2d rfl rfl rfl (hts _ q_ini_Jx4a65c) (hts _ q_ml_X4_62) hd_Jx4a65c_add_9ea2d ⟨Nat.le_of_ble_eq_true rfl, Nat.le_of_ble_eq_true rfl⟩), hts _ q_im_Jx4a65c_add_9ea2d, hts _ q_sel_Jx4a65c_Jx4a65c_add_9ea2d⟩ (xpVn hE hS hFA hLe rfl) rfl rfl hl.1 rfl (lv_room (Nat.le_of_ble_eq_true rfl)) dX4_planPrice_115 ⟨Nat.le_of_ble_eq_true rfl, Nat.le_of_ble_eq_true rfl⟩) hS hFA (fun r_4 H4 locs hP9 hz9 hk9 hS => ?_)
            obtain ⟨d2, hd2, hLn, hFn⟩ := hP9
            have hfn : va_up (fun _ => none) 0 (some q) = fun j => if j < N 1 + 1 then some (va_up (ad 4) (N 1) q j) else none := by
              rw [← pl_f, hn1]
              rfl
            rw [hfn] at hFn
            have hLn : va_at D vwCl (ad 0 2, .inr (0, [.int (g 18 1 + nI 1), .ref d2, .int (nI (N 1 + 1))])) H4 := by
              rw [hn1]
              exact hLn
            have hQn := hV.kept (hk9 _ hql hNF)
            have hX2 := xW.pl (s0 := 6 * i0 + j0) hXm hA (by omega : 0 < 10) (by omega) (by omega) hLn hQn hFn rfl (fun c j hv n2 n10 => hk9 _ (hXm.lt hv) (fun z => z.elim (fun z => n2 (hA.1 c j 0 2 hv (xV0 (by omega)) z)) (fun z => absurd (hXm.lt hv) (by omega))))
            have hA2 := xA.pl (k := 10) (q := q) (d2 := d2) hA hX (by omega) hAq (hAn d2 (by have := hS9.1; omega)) (by omega) (Or.inr (by omega)) (by omega) (by omega) (by omega)
            obtain ⟨ad2, had2⟩ : ∃ z, z = plA ad (N 1) q d2 := ⟨_, rfl⟩
            obtain ⟨N2, hN2⟩ : ∃ z, z = plN' N 10 := ⟨_, rfl⟩
            rw [← had2, ← hN2] at hX2 hA2
            have e00 : ad2 0 0 = ad 0 0 := by rw [had2]; rfl
            rw [← e00] at hl
            obtain ⟨g2, hg2⟩ : ∃ z, z = plG g (N 1) x (nI (6 * i0 + j0)) y := ⟨_, rfl⟩
            rw [← hg2] at hX2
            refine lv_pop hx hb dX4_planPrice_118 rfl ?_
            refine lv_aload_n hx hb dX4_planPrice_119 rfl (lv_at hl 1 rfl) ?_
            refine va_get (D := D) (ci := 5) (v := .ref (ad2 0 2)) (C := RX4) (T := TX4) (N := 11) hx hb hts qi_X4 hown hK (xP1 (hX2.main)) 0 rfl rfl 1 (by decide) (hts _ q_fl_X4_16) (fun _ h9 => h9) rfl dX4_planPrice_120 ?_
            refine xcRi (va_runV (As := []) (rest := []) ⟨hx, hb, hml, hown, hts⟩ (c_Jx4a65c_size_8abf5 l D cA e0 A H4 (ad2 0 2) (g2 18 1) (ad2 0 10) (nI (N2 1)) (hX2.cl)) ⟨(callB_of 0 hts gi_Jx4a65c_size_8abf5 rfl rfl rfl (hts _ q_ini_Jx4a65c) (hts _ q_ml_X4_48) hd_Jx4a65c_size_8abf5 ⟨Nat.le_of_ble_eq_true rfl, Nat.le_of_ble_eq_true rfl⟩), hts _ q_im_Jx4a65c_size_8abf5, hts _ q_sel_Jx4a65c_Jx4a65c_size_8abf5⟩ (xpV hE hS (hX2.cl) rfl) rfl rfl hl.1 rfl (lv_room (Nat.le_of_ble_eq_true rfl)) dX4_planPrice_123 ⟨Nat.le_of_ble_eq_true rfl, Nat.le_of_ble_eq_true rfl⟩) ?_
            refine vx_ret ?_
            have hpost : (fun r h => (okS (N 0) (nI i0) (nI j0) ∧ (ouI x (g 13 0) (nI 999) = 0 ∧ okR 1 1000 y)) ∧ (x = g 13 0 ∨ N 1 < 20) ∧ ((x = g 13 0 ∧ r = nI (N 1) ∧ xW D cA ad (va_up g 6 (upd (g 6) (6 * cl (nI i0) + cl (nI j0)) y)) tt N h) ∨ (¬ x = g 13 0 ∧ r = nI (N 1 + 1) ∧ ∃ q d2 k, xW D cA (plA ad (N 1) q d2) (plG g (N 1) x (nI (6 * cl (nI i0) + cl (nI j0))) y) tt (plN' N k) h ∧ xA A e0 (plA ad (N 1) q d2) (plN' N k)))) (nI (N2 1)) H4 := by
              rw [cl_nI (n := i0) (by omega), cl_nI (n := j0) (by omega)]
              have hok : okS (N 0) (nI i0) (nI j0) ∧ (ouI x (g 13 0) (nI 999) = 0 ∧ okR 1 1000 y) := ⟨⟨i0, j0, hi0, hj0, rfl, rfl⟩, c19, (ou_r (a := 1) (b := 1000) (by omega) (by omega)).mp c41⟩
              refine ⟨hok, Or.inr c86, Or.inr ⟨c59, by rw [hN2]; rfl, q, d2, 10, ?_, ?_⟩⟩
              · rw [← hg2, ← had2, ← hN2]
                exact hX2
              · rw [← had2, ← hN2]
                exact hA2
            refine W.widen (k := 4) (n := 37) (by omega) (by omega) ?_
            exact W.iret (v := (nI (N2 1))) hx hb hr (fun t ht _ => ⟨⟨(nI (N2 1)), H4, rfl, hpost, ht⟩, hS.F ht⟩) hS.2.2 dX4_planPrice_126
          · have hql : q < H3.size := hV.lt
            have hqo : ∀ c j, xV N c j → ad c j < q := fun c j hv => by
              have := hX.lt hv
              omega
            have hq2 : q ≠ ad 0 2 := fun z => by
              have := hqo 0 2 (xV0 (by omega))
              omega
            have hN3 : 0 < N 3 := hc3.1
            have hq10 : q ≠ ad 0 10 := fun z => by
              have := hqo 0 10 (xV10 hN3)
              omega
            have hne : ad 0 2 ≠ ad 0 10 := fun z => absurd (hA.1 0 2 0 10 (xV0 (by omega)) (xV10 hN3) z).2 (by omega)
            have hFA : ∀ z, xF3 (ad 0 2) (ad 0 10) H3.size z → A z := fun z hz => hz.elim (fun hz => hz ▸ hA.a (xV0 (by omega))) (fun hz => hz.elim (fun hz => hz ▸ hA.a (xV10 hN3)) (fun hz => hAn z (by have := hS.1; omega)))
            have hNF : ¬ xF3 (ad 0 2) (ad 0 10) H3.size q := fun z => z.elim hq2 (fun z => z.elim hq10 (fun z => by omega))
            refine xci (va_runV (As := [.ref (q)]) (rest := []) ⟨hx, hb, hml, hown, hts⟩ (c_Jx4a65c_add_9ea2d_r l D cA e0 (xF3 (ad 0 2) (ad 0 10) H3.size) H3 (ad 0 2) (g 18 1) (ad 0 10) (N 1) (N 3) (hXm.cl) (Or.inl rfl) (fun j => if j < N 1 then some (ad 4 j) else none) (hXm.cd hN3) (Or.inr (Or.inl rfl)) hne (RX1, TX1, 3) 2 rfl q_ca_X1_java_lang_Object hc3.2 (by omega) q _ hV hq2 hNF) ⟨(callB_of 1 hts gi_Jx4a65c_add_9ea2d rfl rfl rfl (hts _ q_ini_Jx4a65c) (hts _ q_ml_X4_62) hd_Jx4a65c_add_9ea2d ⟨Nat.le_of_ble_eq_true rfl, Nat.le_of_ble_eq_true rfl⟩), hts _ q_im_Jx4a65c_add_9ea2d, hts _ q_sel_Jx4a65c_Jx4a65c_add_9ea2d⟩ (xpVn hE hS hFA (hXm.cl) rfl) rfl rfl hl.1 rfl (lv_room (Nat.le_of_ble_eq_true rfl)) dX4_planPrice_115 ⟨Nat.le_of_ble_eq_true rfl, Nat.le_of_ble_eq_true rfl⟩) hS hFA (fun r_5 H5 locs hP9 hz9 hk9 hS => ?_)
            obtain ⟨hLn, hFn⟩ := hP9
            rw [pl_f] at hFn
            have hQn := hV.kept (hk9 _ hql hNF)
            have hX2 := xW.pl (s0 := 6 * i0 + j0) hXm hA (by omega : 0 < (N 3)) (by omega) (by omega) hLn hQn hFn rfl (fun c j hv n2 n10 => hk9 _ (hXm.lt hv) (fun z => z.elim (fun z => n2 (hA.1 c j 0 2 hv (xV0 (by omega)) z)) (fun z => z.elim (fun z => n10 (hA.1 c j 0 10 hv (xV10 hN3) z)) (fun z => absurd (hXm.lt hv) (by omega)))))
            have hA2 := xA.pl (k := (N 3)) (q := q) (d2 := (ad 0 10)) hA hX (by omega) hAq (hA.a (xV10 hN3)) (Ne.symm hq10) (Or.inl ⟨hN3, rfl⟩) (by omega) (by omega) (by omega)
            obtain ⟨ad2, had2⟩ : ∃ z, z = plA ad (N 1) q (ad 0 10) := ⟨_, rfl⟩
            obtain ⟨N2, hN2⟩ : ∃ z, z = plN' N (N 3) := ⟨_, rfl⟩
            rw [← had2, ← hN2] at hX2 hA2
            have e00 : ad2 0 0 = ad 0 0 := by rw [had2]; rfl
            rw [← e00] at hl
            obtain ⟨g2, hg2⟩ : ∃ z, z = plG g (N 1) x (nI (6 * i0 + j0)) y := ⟨_, rfl⟩
            rw [← hg2] at hX2
            refine lv_pop hx hb dX4_planPrice_118 rfl ?_
            refine lv_aload_n hx hb dX4_planPrice_119 rfl (lv_at hl 1 rfl) ?_
            refine va_get (D := D) (ci := 5) (v := .ref (ad2 0 2)) (C := RX4) (T := TX4) (N := 11) hx hb hts qi_X4 hown hK (xP1 (hX2.main)) 0 rfl rfl 1 (by decide) (hts _ q_fl_X4_16) (fun _ h9 => h9) rfl dX4_planPrice_120 ?_
            refine xcRi (va_runV (As := []) (rest := []) ⟨hx, hb, hml, hown, hts⟩ (c_Jx4a65c_size_8abf5 l D cA e0 A H5 (ad2 0 2) (g2 18 1) (ad2 0 10) (nI (N2 1)) (hX2.cl)) ⟨(callB_of 0 hts gi_Jx4a65c_size_8abf5 rfl rfl rfl (hts _ q_ini_Jx4a65c) (hts _ q_ml_X4_48) hd_Jx4a65c_size_8abf5 ⟨Nat.le_of_ble_eq_true rfl, Nat.le_of_ble_eq_true rfl⟩), hts _ q_im_Jx4a65c_size_8abf5, hts _ q_sel_Jx4a65c_Jx4a65c_size_8abf5⟩ (xpV hE hS (hX2.cl) rfl) rfl rfl hl.1 rfl (lv_room (Nat.le_of_ble_eq_true rfl)) dX4_planPrice_123 ⟨Nat.le_of_ble_eq_true rfl, Nat.le_of_ble_eq_true rfl⟩) ?_
            refine vx_ret ?_
            have hpost : (fun r h => (okS (N 0) (nI i0) (nI j0) ∧ (ouI x (g 13 0) (nI 999) = 0 ∧ okR 1 1000 y)) ∧ (x = g 13 0 ∨ N 1 < 20) ∧ ((x = g 13 0 ∧ r = nI (N 1) ∧ xW D cA ad (va_up g 6 (upd (g 6) (6 * cl (nI i0) + cl (nI j0)) y)) tt N h) ∨ (¬ x = g 13 0 ∧ r = nI (N 1 + 1) ∧ ∃ q d2 k, xW D cA (plA ad (N 1) q d2) (plG g (N 1) x (nI (6 * cl (nI i0) + cl (nI j0))) y) tt (plN' N k) h ∧ xA A e0 (plA ad (N 1) q d2) (plN' N k)))) (nI (N2 1)) H5 := by
              rw [cl_nI (n := i0) (by omega), cl_nI (n := j0) (by omega)]
              have hok : okS (N 0) (nI i0) (nI j0) ∧ (ouI x (g 13 0) (nI 999) = 0 ∧ okR 1 1000 y) := ⟨⟨i0, j0, hi0, hj0, rfl, rfl⟩, c19, (ou_r (a := 1) (b := 1000) (by omega) (by omega)).mp c41⟩
              refine ⟨hok, Or.inr c86, Or.inr ⟨c59, by rw [hN2]; rfl, q, (ad 0 10), (N 3), ?_, ?_⟩⟩
              · rw [← hg2, ← had2, ← hN2]
                exact hX2
              · rw [← had2, ← hN2]
                exact hA2
            refine W.widen (k := 4) (n := 37) (by omega) (by omega) ?_
            exact W.iret (v := (nI (N2 1))) hx hb hr (fun t ht _ => ⟨⟨(nI (N2 1)), H5, rfl, hpost, ht⟩, hS.F ht⟩) hS.2.2 dX4_planPrice_126
          · have hql : q < H3.size := hV.lt
            have hqo : ∀ c j, xV N c j → ad c j < q := fun c j hv => by
              have := hX.lt hv
              omega
            have hq2 : q ≠ ad 0 2 := fun z => by
              have := hqo 0 2 (xV0 (by omega))
              omega
            have hN3 : 0 < N 3 := hc3.1
            have hq10 : q ≠ ad 0 10 := fun z => by
              have := hqo 0 10 (xV10 hN3)
              omega
            have hne : ad 0 2 ≠ ad 0 10 := fun z => absurd (hA.1 0 2 0 10 (xV0 (by omega)) (xV10 hN3) z).2 (by omega)
            have hFA : ∀ z, xF3 (ad 0 2) (ad 0 10) H3.size z → A z := fun z hz => hz.elim (fun hz => hz ▸ hA.a (xV0 (by omega))) (fun hz => hz.elim (fun hz => hz ▸ hA.a (xV10 hN3)) (fun hz => hAn z (by have := hS.1; omega)))
            have hNF : ¬ xF3 (ad 0 2) (ad 0 10) H3.size q := fun z => z.elim hq2 (fun z => z.elim hq10 (fun z => by omega))
            have hFc : va_at D vwCl (ad 0 10, .inl (cA 2, N 1, .inr (.inr (.inr (.inr (fun j => if j < N 1 then some (ad 4 j) else none)))))) H3 := by
              have z := hXm.cd hN3
              rw [← hc3.2] at z
              exact z
            refine xci (va_runV (As := [.ref (q)]) (rest := []) ⟨hx, hb, hml, hown, hts⟩ (c_Jx4a65c_add_9ea2d_f l D cA e0 (xF3 (ad 0 2) (ad 0 10) H3.size) H3 (ad 0 2) (g 18 1) (ad 0 10) (N 1) (hXm.cl) (Or.inl rfl) (fun j => if j < N 1 then some (ad 4 j) else none) hFc (Or.inr (Or.inl rfl)) hne (RX1, TX1, 3) 2 rfl q_ca_X1_java_lang_Object hXm.el4 (by omega) (fun z hz => Or.inr (Or.inr hz)) q _ hV hq2 hNF (fun j hj y hy => (hA.d4 hN3 j hj y hy).1)) ⟨(callB_of 1 hts gi_Jx4a65c_add_9ea2d rfl rfl rfl (hts _ q_ini_Jx4a65c) (hts _ q_ml_X4_62) hd_Jx4a65c_add_9ea2d ⟨Nat.le_of_ble_eq_true rfl, Nat.le_of_ble_eq_true rfl⟩), hts _ q_im_Jx4a65c_add_9ea2d, hts _ q_sel_Jx4a65c_Jx4a65c_add_9ea2d⟩ (xpVn hE hS hFA (hXm.cl) rfl) rfl rfl hl.1 rfl (lv_room (Nat.le_of_ble_eq_true rfl)) dX4_planPrice_115 ⟨Nat.le_of_ble_eq_true rfl, Nat.le_of_ble_eq_true rfl⟩) hS hFA (fun r_6 H6 locs hP9 hz9 hk9 hS => ?_)
            obtain ⟨d2, hd2, hLn, hFn⟩ := hP9
            have hfn : va_up (fun j => if j < N 1 then (fun j => if j < N 1 then some (ad 4 j) else none) j else none) (N 1) (some q) = fun j => if j < N 1 + 1 then some (va_up (ad 4) (N 1) q j) else none := by
              rw [← pl_f]
              congr 1
              funext j
              show (if j < N 1 then (if j < N 1 then some (ad 4 j) else none) else none) = (if j < N 1 then some (ad 4 j) else none)
              by_cases h : j < N 1
              · simp [h]
              · simp [h]
            rw [hfn] at hFn
            have hQn := hV.kept (hk9 _ hql hNF)
            have hX2 := xW.pl (s0 := 6 * i0 + j0) hXm hA (by omega : 0 < (N 1 + N 1 / 2)) (by omega) (by omega) hLn hQn hFn rfl (fun c j hv n2 n10 => hk9 _ (hXm.lt hv) (fun z => z.elim (fun z => n2 (hA.1 c j 0 2 hv (xV0 (by omega)) z)) (fun z => z.elim (fun z => n10 (hA.1 c j 0 10 hv (xV10 hN3) z)) (fun z => absurd (hXm.lt hv) (by omega)))))
            have hA2 := xA.pl (k := (N 1 + N 1 / 2)) (q := q) (d2 := d2) hA hX (by omega) hAq (hAn d2 (by have := hS9.1; omega)) (by omega) (Or.inr (by omega)) (by omega) (by omega) (by omega)
            obtain ⟨ad2, had2⟩ : ∃ z, z = plA ad (N 1) q d2 := ⟨_, rfl⟩
            obtain ⟨N2, hN2⟩ : ∃ z, z = plN' N (N 1 + N 1 / 2) := ⟨_, rfl⟩
            rw [← had2, ← hN2] at hX2 hA2
            have e00 : ad2 0 0 = ad 0 0 := by rw [had2]; rfl
            rw [← e00] at hl
            obtain ⟨g2, hg2⟩ : ∃ z, z = plG g (N 1) x (nI (6 * i0 + j0)) y := ⟨_, rfl⟩
            rw [← hg2] at hX2
            refine lv_pop hx hb dX4_planPrice_118 rfl ?_
            refine lv_aload_n hx hb dX4_planPrice_119 rfl (lv_at hl 1 rfl) ?_
            refine va_get (D := D) (ci := 5) (v := .ref (ad2 0 2)) (C := RX4) (T := TX4) (N := 11) hx hb hts qi_X4 hown hK (xP1 (hX2.main)) 0 rfl rfl 1 (by decide) (hts _ q_fl_X4_16) (fun _ h9 => h9) rfl dX4_planPrice_120 ?_
            refine xcRi (va_runV (As := []) (rest := []) ⟨hx, hb, hml, hown, hts⟩ (c_Jx4a65c_size_8abf5 l D cA e0 A H6 (ad2 0 2) (g2 18 1) (ad2 0 10) (nI (N2 1)) (hX2.cl)) ⟨(callB_of 0 hts gi_Jx4a65c_size_8abf5 rfl rfl rfl (hts _ q_ini_Jx4a65c) (hts _ q_ml_X4_48) hd_Jx4a65c_size_8abf5 ⟨Nat.le_of_ble_eq_true rfl, Nat.le_of_ble_eq_true rfl⟩), hts _ q_im_Jx4a65c_size_8abf5, hts _ q_sel_Jx4a65c_Jx4a65c_size_8abf5⟩ (xpV hE hS (hX2.cl) rfl) rfl rfl hl.1 rfl (lv_room (Nat.le_of_ble_eq_true rfl)) dX4_planPrice_123 ⟨Nat.le_of_ble_eq_true rfl, Nat.le_of_ble_eq_true rfl⟩) ?_
            refine vx_ret ?_
            have hpost : (fun r h => (okS (N 0) (nI i0) (nI j0) ∧ (ouI x (g 13 0) (nI 999) = 0 ∧ okR 1 1000 y)) ∧ (x = g 13 0 ∨ N 1 < 20) ∧ ((x = g 13 0 ∧ r = nI (N 1) ∧ xW D cA ad (va_up g 6 (upd (g 6) (6 * cl (nI i0) + cl (nI j0)) y)) tt N h) ∨ (¬ x = g 13 0 ∧ r = nI (N 1 + 1) ∧ ∃ q d2 k, xW D cA (plA ad (N 1) q d2) (plG g (N 1) x (nI (6 * cl (nI i0) + cl (nI j0))) y) tt (plN' N k) h ∧ xA A e0 (plA ad (N 1) q d2) (plN' N k)))) (nI (N2 1)) H6 := by
              rw [cl_nI (n := i0) (by omega), cl_nI (n := j0) (by omega)]
              have hok : okS (N 0) (nI i0) (nI j0) ∧ (ouI x (g 13 0) (nI 999) = 0 ∧ okR 1 1000 y) := ⟨⟨i0, j0, hi0, hj0, rfl, rfl⟩, c19, (ou_r (a := 1) (b := 1000) (by omega) (by omega)).mp c41⟩
              refine ⟨hok, Or.inr c86, Or.inr ⟨c59, by rw [hN2]; rfl, q, d2, (N 1 + N 1 / 2), ?_, ?_⟩⟩
              · rw [← hg2, ← had2, ← hN2]
                exact hX2
              · rw [← had2, ← hN2]
                exact hA2
            refine W.widen (k := 4) (n := 37) (by omega) (by omega) ?_
            exact W.iret (v := (nI (N2 1))) hx hb hr (fun t ht _ => ⟨⟨(nI (N2 1)), H6, rfl, hpost, ht⟩, hS.F ht⟩) hS.2.2 dX4_planPrice_126
        · have c86 : ¬ ((N 1) < 20) := fun z => c86 ((nI_ltI (a := N 1) (b := 20) (by omega) (by omega)).mpr z)
          exact xthrow (cls := xISE) (text := "20 changes are planned for later days") hx hb hl9 hE hS hown (by decide +kernel) q_cl_X4_52 q_ini_java_lang_IllegalStateException xth_ISE xgd_ISE (by decide) (hl.1.trans hml.symm) dX4_planPrice_89 dX4_planPrice_92 dX4_planPrice_93 dX4_planPrice_95 dX4_planPrice_98 hxt (Nat.le_of_ble_eq_true rfl) (Nat.le_of_ble_eq_true rfl) (Nat.le_of_ble_eq_true rfl) (Nat.le_of_ble_eq_true rfl) hlocks (Or.inr (Or.inr ⟨rfl, ⟨⟨i0, j0, hi0, hj0, rfl, rfl⟩, c19, (ou_r (a := 1) (b := 1000) (by omega) (by omega)).mp c41⟩, fun z => z.elim c59 c86⟩)) (Nat.le_of_ble_eq_true rfl) (Nat.le_of_ble_eq_true rfl)
      · refine lv_aload hx hb dX4_planPrice_62 (lv_at hl 0 rfl) ?_
        refine lv_iload hx hb dX4_planPrice_64 (lv_at hl 5 rfl) ?_
        refine xput (D := D) (ci := 4) (v := .int (y)) (C := RX3) (T := TX3) (N := 6) hx hb hts qi_X3 tyX3 tyX3_ok nmX3 hown hK hS (hX.slot (show 6 * i0 + j0 < 6 * N 0 by omega)) (hA.a (xV3 (show 6 * i0 + j0 < 6 * N 0 by omega))) rfl 2 (by decide) (hts _ q_fl_X4_122) (fun _ h9 => h9) rfl (tyX3_ok 2 (by decide)) rfl rfl (Nat.le_of_ble_eq_true rfl) dX4_planPrice_66 (fun H7 locs hU hS => ?_)
        have hX8 := hX.ps6 hA (show 6 * i0 + j0 < 6 * N 0 by omega) hU
        obtain ⟨g8, hg8⟩ : ∃ z, z = va_up g 6 (upd (g 6) (6 * i0 + j0) (y)) := ⟨_, rfl⟩
        rw [← hg8] at hX8
        refine lv_aload_n hx hb dX4_planPrice_69 rfl (lv_at hl 1 rfl) ?_
        refine va_get (D := D) (ci := 5) (v := .ref (ad 0 2)) (C := RX4) (T := TX4) (N := 11) hx hb hts qi_X4 hown hK (xP1 (hX8.main)) 0 rfl rfl 1 (by decide) (hts _ q_fl_X4_16) (fun _ h9 => h9) rfl dX4_planPrice_70 ?_
        refine xcRi (va_runV (As := []) (rest := []) ⟨hx, hb, hml, hown, hts⟩ (c_Jx4a65c_size_8abf5 l D cA e0 A H7 (ad 0 2) (g8 18 1) (ad 0 10) (nI (N 1)) (hX8.cl)) ⟨(callB_of 0 hts gi_Jx4a65c_size_8abf5 rfl rfl rfl (hts _ q_ini_Jx4a65c) (hts _ q_ml_X4_48) hd_Jx4a65c_size_8abf5 ⟨Nat.le_of_ble_eq_true rfl, Nat.le_of_ble_eq_true rfl⟩), hts _ q_im_Jx4a65c_size_8abf5, hts _ q_sel_Jx4a65c_Jx4a65c_size_8abf5⟩ (xpV hE hS (hX8.cl) rfl) rfl rfl hl.1 rfl (lv_room (Nat.le_of_ble_eq_true rfl)) dX4_planPrice_73 ⟨Nat.le_of_ble_eq_true rfl, Nat.le_of_ble_eq_true rfl⟩) ?_
        refine vx_ret ?_
        have hpost : (fun r h => (okS (N 0) (nI i0) (nI j0) ∧ (ouI x (g 13 0) (nI 999) = 0 ∧ okR 1 1000 y)) ∧ (x = g 13 0 ∨ N 1 < 20) ∧ ((x = g 13 0 ∧ r = nI (N 1) ∧ xW D cA ad (va_up g 6 (upd (g 6) (6 * cl (nI i0) + cl (nI j0)) y)) tt N h) ∨ (¬ x = g 13 0 ∧ r = nI (N 1 + 1) ∧ ∃ q d2 k, xW D cA (plA ad (N 1) q d2) (plG g (N 1) x (nI (6 * cl (nI i0) + cl (nI j0))) y) tt (plN' N k) h ∧ xA A e0 (plA ad (N 1) q d2) (plN' N k)))) (nI (N 1)) H7 := by
          rw [cl_nI (n := i0) (by omega), cl_nI (n := j0) (by omega)]
          have hok : okS (N 0) (nI i0) (nI j0) ∧ (ouI x (g 13 0) (nI 999) = 0 ∧ okR 1 1000 y) := ⟨⟨i0, j0, hi0, hj0, rfl, rfl⟩, c19, (ou_r (a := 1) (b := 1000) (by omega) (by omega)).mp c41⟩
          exact ⟨hok, Or.inl c59, Or.inl ⟨c59, rfl, by rw [← hg8]; exact hX8⟩⟩
        refine W.widen (k := 4) (n := 37) (by omega) (by omega) ?_
        exact W.iret (v := (nI (N 1))) hx hb hr (fun t ht _ => ⟨⟨(nI (N 1)), H7, rfl, hpost, ht⟩, hS.F ht⟩) hS.2.2 dX4_planPrice_76
    · exact xthrow (cls := xIAE) (text := "price is not 1 to 1000") hx hb hl9 hE hS hown (by decide +kernel) q_cl_X4_41 q_ini_java_lang_IllegalArgumentException xth_IAE xgd_IAE (by decide) (hl.1.trans hml.symm) dX4_planPrice_44 dX4_planPrice_47 dX4_planPrice_48 dX4_planPrice_50 dX4_planPrice_53 hxt (Nat.le_of_ble_eq_true rfl) (Nat.le_of_ble_eq_true rfl) (Nat.le_of_ble_eq_true rfl) (Nat.le_of_ble_eq_true rfl) hlocks (Or.inr (Or.inl ⟨rfl, ⟨i0, j0, hi0, hj0, rfl, rfl⟩, fun z => c41 ((ou_r (a := 1) (b := 1000) (by omega) (by omega)).mpr z.2)⟩)) (Nat.le_of_ble_eq_true rfl) (Nat.le_of_ble_eq_true rfl)
  · exact xthrow (cls := xIAE) (text := "day is less than today, or greater than 999") hx hb hl9 hE hS hown (by decide +kernel) q_cl_X4_41 q_ini_java_lang_IllegalArgumentException xth_IAE xgd_IAE (by decide) (hl.1.trans hml.symm) dX4_planPrice_22 dX4_planPrice_25 dX4_planPrice_26 dX4_planPrice_28 dX4_planPrice_31 hxt (Nat.le_of_ble_eq_true rfl) (Nat.le_of_ble_eq_true rfl) (Nat.le_of_ble_eq_true rfl) (Nat.le_of_ble_eq_true rfl) hlocks (Or.inr (Or.inl ⟨rfl, ⟨i0, j0, hi0, hj0, rfl, rfl⟩, fun z => c19 z.1⟩)) (Nat.le_of_ble_eq_true rfl) (Nat.le_of_ble_eq_true rfl)
