/-! The class: changes made, days passed (by p25.py) -/
def xF2 (a b q : Nat) : Prop := q = a ∨ q = b
theorem xpVn {D : va_G} {cA : Nat → ClassId} {e0 : Nat} {A B : Nat → Prop} {s : State} {H : Heap} {locs : List Loc} {As : List Value} {b ci : Nat} {fs : List Value} {q : vw_C} (hE : xE D cA e0 A s.heap s) (hS : va_S A s.heap H locs) (hB : ∀ q, B q → A q) (hb : va_at D vwCl (b, .inr (ci, fs)) H) (hc : vwCl[ci]? = some q) : PreV s H q.1 b (xPc D cA e0 B H (.ref b :: As)) As :=
  ⟨fun a U g mk q => ⟨q.1, q.2.1, q.2.2.warm (U := U.calling g mk a) (State.WarmedH.refl U)⟩, va_recv hE.2.1 (xP1 hb) hc (q0 := 0) rfl, fun U hU hW => ⟨rfl, hU, ((hE.kept hS.2.1).narrow hB).warm hW⟩⟩
theorem xpSn {D : va_G} {cA : Nat → ClassId} {e0 : Nat} {A B : Nat → Prop} {s : State} {H : Heap} {locs : List Loc} {As : List Value} (hE : xE D cA e0 A s.heap s) (hS : va_S A s.heap H locs) (hB : ∀ q, B q → A q) : PreS s H (xPc D cA e0 B H As) As :=
  ⟨fun a U g mk q => ⟨q.1, q.2.1, q.2.2.warm (U := U.calling g mk a) (State.WarmedH.refl U)⟩, fun U hU hW => ⟨rfl, hU, ((hE.kept hS.2.1).narrow hB).warm hW⟩⟩
theorem xW.el4 {D : va_G} {cA : Nat → ClassId} {ad : Nat → Nat → Nat} {g : Nat → Nat → Int32} {tt : Nat → Int64} {N : Nat → Nat} {H : Heap} (hX : xW D cA ad g tt N H) : xEl D (RX1, TX1, 3) 2 (fun j => if j < N 1 then some (ad 4 j) else none) (N 1) H := fun j hj y hy => by
  have e : some (ad 4 j) = some y := (if_pos hj).symm.trans hy
  cases e
  exact ⟨_, hX.chg hj⟩
theorem xA.d4 {A : Nat → Prop} {e0 : Nat} {ad : Nat → Nat → Nat} {N : Nat → Nat} (hA : xA A e0 ad N) (hN : 0 < N 3) : ∀ j, j < N 1 → ∀ y, (if j < N 1 then some (ad 4 j) else none) = some y → y ≠ ad 0 2 ∧ y ≠ ad 0 10 := fun j hj y hy => by
  have e : some (ad 4 j) = some y := (if_pos hj).symm.trans hy
  cases e
  refine ⟨fun z => ?_, fun z => ?_⟩
  · have := (hA.1 4 j 0 2 (xV4 hj) (xV0 (by omega)) z).1
    omega
  · have := (hA.1 4 j 0 10 (xV4 hj) (xV10 hN) z).1
    omega
set_option maxHeartbeats 4000000 in
set_option maxRecDepth 100000 in
/-- changePrices() -/
theorem c_X4_changePrices (l : Launch) (D : va_G) (cA : Nat → ClassId) (e0 : Nat) (A : Nat → Prop) (H0 : Heap) (ad : Nat → Nat → Nat) (g : Nat → Nat → Int32) (tt : Nat → Int64) (N : Nat → Nat) (hX : xW D cA ad g tt N H0) (hA : xA A e0 ad N) (hC : chOK g (N 0) (N 1)) : Met l yX4_changePrices w_X4_changePrices ({ frames := 3, cells := 0, slots := 0, locals := 86 } : Room) (xPc D cA e0 A H0 [.ref (ad 0 0)]) (xQv (fun h => ∃ ad2 g2 N2, xW D cA ad2 g2 tt N2 h ∧ xA A e0 ad2 N2 ∧ chR (cpG g (N 1)) g2 ad ad2 N N2 ((List.range (N 1)).filter (stF g))) A) 0 0 (A) := by
  refine Met.ofW (cc := cX4_changePrices) (maxL := 3) (ret := none) (by decide) rfl ?_
  intro p e s m args below meth c s₁ B hml hv
  obtain ⟨rfl, hH, hE⟩ := hv
  subst hH
  have hx := B.exec
  have hb := B.bytes
  have hr := B.returns
  have hts := hE.1.all ([.ref (ad 0 0)] : List Value).toArray
  have hown : s.vm.findClass RX4 = some m.cls := findClass_of_methodNamed B.named
  have hlocks := B.notSynchronized
  have hK := hE.2.1
  have hS : va_S A s.heap s.heap [] := va_S.rf
  have hl := lv_entry ([.ref (ad 0 0)]) (n := 3) (Nat.le_of_ble_eq_true rfl)
  rw [lg_entry_eq]
  generalize (lg_sl ([.ref (ad 0 0)]) ++ List.replicate (3 - (lg_sl ([.ref (ad 0 0)])).length) Slot.unset).toArray = ls at hl ⊢
  have hl : lv_has ls 3 [(0, .ref (ad 0 0))] := hl
  have hn8 := hA.n8
  have hn20 := hA.2.2.2.2.2.2.2.1
  refine lv_iconst (v := nI 0) hx hb dX4_changePrices_0 (by decide) ?_
  refine lv_istore_n (lv' := [(1, .int (nI 0)), (0, .ref (ad 0 0))]) hx hb dX4_changePrices_1 rfl hl (by decide) rfl (fun ls hl => ?_)
  have LOOP2 : ∀ (n2 : Nat) (i : Nat) (g1 : Nat → Nat → Int32) (H : Heap) (locs : List Loc) (ls : Array Slot), (i ≤ N 1) → (xW D cA ad g1 tt N H) → (g1 = cpG g i) → va_S A s.heap H locs → (N 1 - i) < n2 → lv_has ls 3 [(1, .int (nI (i))), (0, .ref (ad 0 0))] → W p l e (headSpec w_X4_changePrices ({ frames := 3, cells := 0, slots := 0, locals := 86 } : Room)).room s m ([.ref (ad 0 0)] : List Value).toArray below meth c H locs 0 0 (MQ below (xQv (fun h => ∃ ad2 g2 N2, xW D cA ad2 g2 tt N2 h ∧ xA A e0 ad2 N2 ∧ chR (cpG g (N 1)) g2 ad ad2 N N2 ((List.range (N 1)).filter (stF g))) A) ([.ref (ad 0 0)] : List Value).toArray s 0 0 (A)) (F0 m 2 ls []) := by
    intro n2
    induction n2 with
    | zero => intro i g1 H locs ls hi hX1 hg1 hS hmeas hl; exact absurd hmeas (Nat.not_lt_zero _)
    | succ n2 ih2 =>
      intro i g1 H locs ls hi hX1 hg1 hS hmeas hl
      refine lv_iload_n hx hb dX4_changePrices_2 rfl (lv_at hl 0 rfl) ?_
      refine lv_aload_n hx hb dX4_changePrices_3 rfl (lv_at hl 1 rfl) ?_
      refine va_get (D := D) (ci := 5) (v := .ref (ad 0 2)) (C := RX4) (T := TX4) (N := 11) hx hb hts qi_X4 hown hK (xP1 (hX1.main)) 0 rfl rfl 1 (by decide) (hts _ q_fl_X4_16) (fun _ h9 => h9) rfl dX4_changePrices_4 ?_
      refine xcRi (va_runV (As := []) (rest := [.int (nI (i))]) ⟨hx, hb, hml, hown, hts⟩ (c_Jx4a65c_size_8abf5 l D cA e0 A H (ad 0 2) (g1 18 1) (ad 0 10) (nI (N 1)) (hX1.cl)) ⟨(callB_of 0 hts gi_Jx4a65c_size_8abf5 rfl rfl rfl (hts _ q_ini_Jx4a65c) (hts _ q_ml_X4_48) hd_Jx4a65c_size_8abf5 ⟨Nat.le_of_ble_eq_true rfl, Nat.le_of_ble_eq_true rfl⟩), hts _ q_im_Jx4a65c_size_8abf5, hts _ q_sel_Jx4a65c_Jx4a65c_size_8abf5⟩ (xpV hE hS (hX1.cl) rfl) rfl rfl hl.1 rfl (lv_room (Nat.le_of_ble_eq_true rfl)) dX4_changePrices_7 ⟨Nat.le_of_ble_eq_true rfl, Nat.le_of_ble_eq_true rfl⟩) ?_
      refine lv_icmp_ge (tgt := 53) hx hb dX4_changePrices_10 (by decide) (fun c10 => ?_) (fun c10 => ?_)
      · have c10 : (N 1) ≤ i := (nI_leI (a := N 1) (b := i) (by omega) (by omega)).mp c10
        have hiN : i = N 1 := by omega
        refine lv_aload_n hx hb dX4_changePrices_53 rfl (lv_at hl 1 rfl) ?_
        refine va_get (D := D) (ci := 5) (v := .ref (ad 0 2)) (C := RX4) (T := TX4) (N := 11) hx hb hts qi_X4 hown hK (xP1 (hX1.main)) 0 rfl rfl 1 (by decide) (hts _ q_fl_X4_16) (fun _ h9 => h9) rfl dX4_changePrices_54 ?_
        refine xcRi (va_runV (As := []) (rest := []) ⟨hx, hb, hml, hown, hts⟩ (c_Jx4a65c_size_8abf5 l D cA e0 A H (ad 0 2) (g1 18 1) (ad 0 10) (nI (N 1)) (hX1.cl)) ⟨(callB_of 0 hts gi_Jx4a65c_size_8abf5 rfl rfl rfl (hts _ q_ini_Jx4a65c) (hts _ q_ml_X4_48) hd_Jx4a65c_size_8abf5 ⟨Nat.le_of_ble_eq_true rfl, Nat.le_of_ble_eq_true rfl⟩), hts _ q_im_Jx4a65c_size_8abf5, hts _ q_sel_Jx4a65c_Jx4a65c_size_8abf5⟩ (xpV hE hS (hX1.cl) rfl) rfl rfl hl.1 rfl (lv_room (Nat.le_of_ble_eq_true rfl)) dX4_changePrices_57 ⟨Nat.le_of_ble_eq_true rfl, Nat.le_of_ble_eq_true rfl⟩) ?_
        refine lv_iconst (v := nI 1) hx hb dX4_changePrices_60 (by decide) ?_
        refine lv_isub hx hb dX4_changePrices_61 ?_
        refine lv_istore_n (lv' := [(1, .int ((nI (N 1)) - (nI 1))), (0, .ref (ad 0 0))]) hx hb dX4_changePrices_62 rfl hl (by decide) rfl (fun ls hl => ?_)
        have LOOP63 : ∀ (n63 : Nat) (k : Nat) (ad1 : Nat → Nat → Nat) (g3 : Nat → Nat → Int32) (N1 : Nat → Nat) (H : Heap) (locs : List Loc) (ls : Array Slot), (k ≤ N 1) → (xW D cA ad1 g3 tt N1 H) → (xA A e0 ad1 N1) → (chR (cpG g (N 1)) g3 ad ad1 N N1 (kpL (stF g) k (N 1))) → va_S A s.heap H locs → (k) < n63 → lv_has ls 3 [(1, .int (nI k - nI 1)), (0, .ref (ad1 0 0))] → W p l e (headSpec w_X4_changePrices ({ frames := 3, cells := 0, slots := 0, locals := 86 } : Room)).room s m ([.ref (ad 0 0)] : List Value).toArray below meth c H locs 0 0 (MQ below (xQv (fun h => ∃ ad2 g2 N2, xW D cA ad2 g2 tt N2 h ∧ xA A e0 ad2 N2 ∧ chR (cpG g (N 1)) g2 ad ad2 N N2 ((List.range (N 1)).filter (stF g))) A) ([.ref (ad 0 0)] : List Value).toArray s 0 0 (A)) (F0 m 63 ls []) := by
          intro n63
          induction n63 with
          | zero => intro k ad1 g3 N1 H locs ls hk hX3 hA1 hR hS hmeas hl; exact absurd hmeas (Nat.not_lt_zero _)
          | succ n63 ih63 =>
            intro k ad1 g3 N1 H locs ls hk hX3 hA1 hR hS hmeas hl
            refine lv_iload_n hx hb dX4_changePrices_63 rfl (lv_at hl 0 rfl) ?_
            refine lv_if_lt (tgt := 103) hx hb dX4_changePrices_64 (by decide) (fun c64 => ?_) (fun c64 => ?_)
            · have hk0 : k = 0 := by
                rcases k with _ | i
                · rfl
                · exfalso
                  rw [show nI (i + 1) - nI 1 = nI i from pk_sub (by omega)] at c64
                  exact nI_pos (n := i) (by omega) c64
              have hpost : (fun h => ∃ ad2 g2 N2, xW D cA ad2 g2 tt N2 h ∧ xA A e0 ad2 N2 ∧ chR (cpG g (N 1)) g2 ad ad2 N N2 ((List.range (N 1)).filter (stF g))) H := by
                subst hk0
                rw [kp_0] at hR
                exact ⟨ad1, g3, N1, hX3, hA1, hR⟩
              refine W.widen (k := 0) (n := 0) (by omega) (by omega) ?_
              exact W.vret hx hb hr (fun t ht _ => ⟨⟨H, rfl, hpost, ht⟩, hS.F ht⟩) hS.2.2 dX4_changePrices_103
            · obtain ⟨i, rfl⟩ : ∃ i, k = i + 1 := by
                rcases k with _ | i
                · exact absurd (by decide) c64
                · exact ⟨i, rfl⟩
              have h85 := ch_at hR (by omega)
              rw [show nI (i + 1) - nI 1 = nI i from pk_sub (by omega)] at hl
              refine lv_aload_n hx hb dX4_changePrices_67 rfl (lv_at hl 1 rfl) ?_
              refine va_get (D := D) (ci := 5) (v := .ref (ad1 0 2)) (C := RX4) (T := TX4) (N := 11) hx hb hts qi_X4 hown hK (xP1 (hX3.main)) 0 rfl rfl 1 (by decide) (hts _ q_fl_X4_16) (fun _ h9 => h9) rfl dX4_changePrices_68 ?_
              refine lv_iload_n hx hb dX4_changePrices_71 rfl (lv_at hl 0 rfl) ?_
              refine xcRr (va_runV (As := [.int (nI (i))]) (rest := []) ⟨hx, hb, hml, hown, hts⟩ (c_Jx4a65c_get_915e3 l D cA e0 A H (ad1 0 2) (g3 18 1) (ad1 0 10) (N1 1) (hX3.cl) (N1 3) (fun j => if j < N1 1 then some (ad1 4 j) else none) (hX3.cd (by have := hA1.2.2.2.2.2.2.2.2.1; omega)) i (ad1 4 i) h85.2.2 hA1.2.2.2.2.2.2.2.2.1 (by have := hA1.2.2.2.2.2.2.2.2.2; omega) (if_pos h85.2.2)) ⟨(callB_of 1 hts gi_Jx4a65c_get_915e3 rfl rfl rfl (hts _ q_ini_Jx4a65c) (hts _ q_ml_X4_199) hd_Jx4a65c_get_915e3 ⟨Nat.le_of_ble_eq_true rfl, Nat.le_of_ble_eq_true rfl⟩), hts _ q_im_Jx4a65c_get_915e3, hts _ q_sel_Jx4a65c_Jx4a65c_get_915e3⟩ (xpV hE hS (hX3.cl) rfl) rfl rfl hl.1 rfl (lv_room (Nat.le_of_ble_eq_true rfl)) dX4_changePrices_72 ⟨Nat.le_of_ble_eq_true rfl, Nat.le_of_ble_eq_true rfl⟩) ?_
              refine va_castS hx hb hown (hts _ q_cl_X4_127) (hK.1 2 _ rfl).2 (va_recv hK (xP1 (hX3.chg h85.2.2)) (ci := 2) (q0 := 0) rfl rfl) dX4_changePrices_75 ?_
              refine va_get (D := D) (ci := 2) (v := .int (g3 10 i)) (C := RX1) (T := TX1) (N := 3) hx hb hts qi_X1 hown hK (xP1 (hX3.chg h85.2.2)) 0 rfl rfl 1 (by decide) (hts _ q_fl_X4_244) (fun _ h9 => h9) rfl dX4_changePrices_78 ?_
              refine lv_aload_n hx hb dX4_changePrices_81 rfl (lv_at hl 1 rfl) ?_
              refine va_get (D := D) (ci := 5) (v := .int (g3 13 0)) (C := RX4) (T := TX4) (N := 11) hx hb hts qi_X4 hown hK (xP1 (hX3.main)) 0 rfl rfl 6 (by decide) (hts _ q_fl_X4_115) (fun _ h9 => h9) rfl dX4_changePrices_82 ?_
              refine lv_icmp_ne (tgt := 97) hx hb dX4_changePrices_85 (by decide) (fun c85 => ?_) (fun c85 => ?_)
              · refine lv_iinc (v := nI i - nI 1) (lv' := [(1, .int (nI i - nI 1)), (0, .ref (ad1 0 0))]) hx hb dX4_changePrices_97 hl (k := 0) rfl (nI_m1 i) (by decide) rfl (fun ls hl => ?_)
                refine lv_goto (tgt := 63) hx hb dX4_changePrices_100 (by decide) ?_
                exact ih63 i ad1 g3 N1 H locs _ (by omega) hX3 hA1 (by rw [kp_yes (p := stF g) (by omega) (decide_eq_true (fun z => c85 (by rw [h85.1, h85.2.1]; exact z)))]; exact hR) hS (by omega) (lv_sub hl [0, 1] rfl)
              · refine lv_aload_n hx hb dX4_changePrices_88 rfl (lv_at hl 1 rfl) ?_
                refine va_get (D := D) (ci := 5) (v := .ref (ad1 0 2)) (C := RX4) (T := TX4) (N := 11) hx hb hts qi_X4 hown hK (xP1 (hX3.main)) 0 rfl rfl 1 (by decide) (hts _ q_fl_X4_16) (fun _ h9 => h9) rfl dX4_changePrices_89 ?_
                refine lv_iload_n hx hb dX4_changePrices_92 rfl (lv_at hl 0 rfl) ?_
                have hN3b := hA1.2.2.2.2.2.2.2.2
                have hN3 : 0 < N1 3 := by omega
                have hFA : ∀ q, xF2 (ad1 0 2) (ad1 0 10) q → A q := fun q z => z.elim (fun z => z ▸ hA1.a (xV0 (by omega))) (fun z => z ▸ hA1.a (xV10 hN3))
                refine xcr (va_runV (As := [.int (nI (i))]) (rest := []) ⟨hx, hb, hml, hown, hts⟩ (c_Jx4a65c_remove_915e3 l D cA e0 (xF2 (ad1 0 2) (ad1 0 10)) H (ad1 0 2) (g3 18 1) (ad1 0 10) (N1 1) (hX3.cl) (N1 3) (fun j => if j < N1 1 then some (ad1 4 j) else none) (hX3.cd hN3) i h85.2.2 hA1.2.2.2.2.2.2.2.2.1 (by omega) (Or.inl rfl) (Or.inr rfl) (fun z => absurd (hA1.1 0 2 0 10 (xV0 (by omega)) (xV10 hN3) z).2 (by omega)) (RX1, TX1, 3) 2 rfl q_ca_X1_java_lang_Object hX3.el4 (hA1.d4 hN3) (ad1 4 i) (if_pos h85.2.2)) ⟨(callB_of 1 hts gi_Jx4a65c_remove_915e3 rfl rfl rfl (hts _ q_ini_Jx4a65c) (hts _ q_ml_X4_250) hd_Jx4a65c_remove_915e3 ⟨Nat.le_of_ble_eq_true rfl, Nat.le_of_ble_eq_true rfl⟩), hts _ q_im_Jx4a65c_remove_915e3, hts _ q_sel_Jx4a65c_Jx4a65c_remove_915e3⟩ (xpVn hE hS hFA (hX3.cl) rfl) rfl rfl hl.1 rfl (lv_room (Nat.le_of_ble_eq_true rfl)) dX4_changePrices_93 ⟨Nat.le_of_ble_eq_true rfl, Nat.le_of_ble_eq_true rfl⟩) hS hFA (fun r_1 H1 locs hP9 hz9 hk9 hS => ?_)
                obtain ⟨f2, hf2⟩ := hP9.2.2
                refine lv_pop hx hb dX4_changePrices_96 rfl ?_
                refine lv_iinc (v := nI i - nI 1) (lv' := [(1, .int (nI i - nI 1)), (0, .ref (ad1 0 0))]) hx hb dX4_changePrices_97 hl (k := 0) rfl (nI_m1 i) (by decide) rfl (fun ls hl => ?_)
                refine lv_goto (tgt := 63) hx hb dX4_changePrices_100 (by decide) ?_
                exact ih63 i (va_up ad1 4 (shF (ad1 4) i)) (rmG g3 i) (va_up N1 1 (N1 1 - 1)) H1 locs _ (by omega) (xW.rm hX3 hA1 h85.2.2 hP9.2.1 hf2.1 hf2.2 hk9) (hA1.rm h85.2.2) (by rw [kp_no (p := stF g) (by omega) (fun z => absurd (by rw [← h85.1, ← h85.2.1]; exact c85) (of_decide_eq_true z))]; exact chR_rm hR (kp_len (by omega))) hS (by omega) (lv_sub hl [0, 1] rfl)
        exact LOOP63 _ (N 1) ad g1 N H locs _ (Nat.le_refl _) hX1 hA (by rw [kp_n, hg1, show i = N 1 by omega]; exact chR_0 _ ad N) hS (Nat.lt_succ_self _) (lv_sub hl [0, 1] rfl)
      · have c10 : ¬ ((N 1) ≤ i) := fun z => c10 ((nI_leI (a := N 1) (b := i) (by omega) (by omega)).mpr z)
        have c10 : i < N 1 := by omega
        have hsl : (g1 11 i).toNatClampNeg < 6 * N 0 := by
          have z := hC i c10
          rw [hg1, cpG_t g (by omega) i]
          exact z
        refine lv_aload_n hx hb dX4_changePrices_13 rfl (lv_at hl 1 rfl) ?_
        refine va_get (D := D) (ci := 5) (v := .ref (ad 0 2)) (C := RX4) (T := TX4) (N := 11) hx hb hts qi_X4 hown hK (xP1 (hX1.main)) 0 rfl rfl 1 (by decide) (hts _ q_fl_X4_16) (fun _ h9 => h9) rfl dX4_changePrices_14 ?_
        refine lv_iload_n hx hb dX4_changePrices_17 rfl (lv_at hl 0 rfl) ?_
        refine xcRr (va_runV (As := [.int (nI (i))]) (rest := []) ⟨hx, hb, hml, hown, hts⟩ (c_Jx4a65c_get_915e3 l D cA e0 A H (ad 0 2) (g1 18 1) (ad 0 10) (N 1) (hX1.cl) (N 3) (fun j => if j < N 1 then some (ad 4 j) else none) (hX1.cd (by have := hA.2.2.2.2.2.2.2.2.1; omega)) i (ad 4 i) c10 hA.2.2.2.2.2.2.2.2.1 (by have := hA.2.2.2.2.2.2.2.2.2; omega) (if_pos c10)) ⟨(callB_of 1 hts gi_Jx4a65c_get_915e3 rfl rfl rfl (hts _ q_ini_Jx4a65c) (hts _ q_ml_X4_199) hd_Jx4a65c_get_915e3 ⟨Nat.le_of_ble_eq_true rfl, Nat.le_of_ble_eq_true rfl⟩), hts _ q_im_Jx4a65c_get_915e3, hts _ q_sel_Jx4a65c_Jx4a65c_get_915e3⟩ (xpV hE hS (hX1.cl) rfl) rfl rfl hl.1 rfl (lv_room (Nat.le_of_ble_eq_true rfl)) dX4_changePrices_18 ⟨Nat.le_of_ble_eq_true rfl, Nat.le_of_ble_eq_true rfl⟩) ?_
        refine va_castS hx hb hown (hts _ q_cl_X4_127) (hK.1 2 _ rfl).2 (va_recv hK (xP1 (hX1.chg c10)) (ci := 2) (q0 := 0) rfl rfl) dX4_changePrices_21 ?_
        refine lv_astore_n (lv' := [(2, .ref (ad 4 i)), (1, .int (nI (i))), (0, .ref (ad 0 0))]) hx hb dX4_changePrices_24 rfl hl (by decide) rfl (fun ls hl => ?_)
        refine lv_aload_n hx hb dX4_changePrices_25 rfl (lv_at hl 0 rfl) ?_
        refine va_get (D := D) (ci := 2) (v := .int (g1 10 i)) (C := RX1) (T := TX1) (N := 3) hx hb hts qi_X1 hown hK (xP1 (hX1.chg c10)) 0 rfl rfl 1 (by decide) (hts _ q_fl_X4_244) (fun _ h9 => h9) rfl dX4_changePrices_26 ?_
        refine lv_aload_n hx hb dX4_changePrices_29 rfl (lv_at hl 2 rfl) ?_
        refine va_get (D := D) (ci := 5) (v := .int (g1 13 0)) (C := RX4) (T := TX4) (N := 11) hx hb hts qi_X4 hown hK (xP1 (hX1.main)) 0 rfl rfl 6 (by decide) (hts _ q_fl_X4_115) (fun _ h9 => h9) rfl dX4_changePrices_30 ?_
        refine lv_icmp_ne (tgt := 47) hx hb dX4_changePrices_33 (by decide) (fun c33 => ?_) (fun c33 => ?_)
        · refine lv_iinc (v := nI (i + 1)) (lv' := [(1, .int (nI (i + 1))), (2, .ref (ad 4 i)), (0, .ref (ad 0 0))]) hx hb dX4_changePrices_47 hl (k := 1) rfl (nI_add i 1) (by decide) rfl (fun ls hl => ?_)
          refine lv_goto (tgt := 2) hx hb dX4_changePrices_50 (by decide) ?_
          exact ih2 (i + 1) g1 H locs _ (by omega) hX1 (cp_no hg1 c33) hS (by omega) (lv_sub hl [0, 2] rfl)
        · refine lv_aload_n hx hb dX4_changePrices_36 rfl (lv_at hl 0 rfl) ?_
          refine va_get (D := D) (ci := 2) (v := .ref (ad 3 (g1 11 i).toNatClampNeg)) (C := RX1) (T := TX1) (N := 3) hx hb hts qi_X1 hown hK (xP1 (hX1.chg c10)) 0 rfl rfl 0 (by decide) (hts _ q_fl_X4_245) (fun _ h9 => h9) rfl dX4_changePrices_37 ?_
          refine lv_aload_n hx hb dX4_changePrices_40 rfl (lv_at hl 0 rfl) ?_
          refine va_get (D := D) (ci := 2) (v := .int (g1 12 i)) (C := RX1) (T := TX1) (N := 3) hx hb hts qi_X1 hown hK (xP1 (hX1.chg c10)) 0 rfl rfl 2 (by decide) (hts _ q_fl_X4_249) (fun _ h9 => h9) rfl dX4_changePrices_41 ?_
          refine xput (D := D) (ci := 4) (v := .int (g1 12 i)) (C := RX3) (T := TX3) (N := 6) hx hb hts qi_X3 tyX3 tyX3_ok nmX3 hown hK hS (hX1.slot hsl) (hA.a (xV3 hsl)) rfl 2 (by decide) (hts _ q_fl_X4_122) (fun _ h9 => h9) rfl (tyX3_ok 2 (by decide)) rfl rfl (Nat.le_of_ble_eq_true rfl) dX4_changePrices_44 (fun H2 locs hU hS => ?_)
          have hX3 := hX1.ps6 hA hsl hU
          obtain ⟨g3, hg3⟩ : ∃ z, z = va_up g1 6 (upd (g1 6) (g1 11 i).toNatClampNeg (g1 12 i)) := ⟨_, rfl⟩
          rw [← hg3] at hX3
          refine lv_iinc (v := nI (i + 1)) (lv' := [(1, .int (nI (i + 1))), (2, .ref (ad 4 i)), (0, .ref (ad 0 0))]) hx hb dX4_changePrices_47 hl (k := 1) rfl (nI_add i 1) (by decide) rfl (fun ls hl => ?_)
          refine lv_goto (tgt := 2) hx hb dX4_changePrices_50 (by decide) ?_
          exact ih2 (i + 1) g3 H2 locs _ (by omega) hX3 (by rw [hg3]; exact cp_yes hg1 c33) hS (by omega) (lv_sub hl [0, 2] rfl)
  exact LOOP2 _ 0 g s.heap [] _ (by omega) hX rfl hS (Nat.lt_succ_self _) (lv_sub hl [0, 1] rfl)
def sumI (a b : Int32) : Int := a.toInt + b.toInt
theorem ps_iv {m : Nat} {g : Nat → Nat → Int32} {n : Nat} (h : slInv g m) : ∀ k, slInv (psS m g n k).1 m
  | 0 => h
  | k + 1 => by
    have ih := ps_iv (n := n) h k
    have h1 := so_iv ih 0 (6 * m) (by omega)
    refine inv_c h1 ?_ ?_ ?_
    · show chG (cpG (dyG (psS m g n k).1 m) (psS m g n k).2.1) (dyL (psS m g n k).1 m (psS m g n k).2.1) 4 = _
      rw [chG_t _ _ (by omega) (by omega) (by omega), cpG_t _ (by omega)]
      unfold dyG
      rw [up_ne (by omega)]
    · show chG (cpG (dyG (psS m g n k).1 m) (psS m g n k).2.1) (dyL (psS m g n k).1 m (psS m g n k).2.1) 5 = _
      rw [chG_t _ _ (by omega) (by omega) (by omega), cpG_t _ (by omega)]
      unfold dyG
      rw [up_ne (by omega)]
    · show chG (cpG (dyG (psS m g n k).1 m) (psS m g n k).2.1) (dyL (psS m g n k).1 m (psS m g n k).2.1) 7 = _
      rw [chG_t _ _ (by omega) (by omega) (by omega), cpG_t _ (by omega)]
      unfold dyG
      rw [up_ne (by omega)]
theorem dyG_11 (g : Nat → Nat → Int32) (m : Nat) : dyG g m 11 = g 11 := by
  unfold dyG
  rw [up_ne (by omega)]
  exact so_t g 0 (by omega) (by omega) (by omega) (by omega) _
theorem ps_ok {m : Nat} {g : Nat → Nat → Int32} {n : Nat} (h : chOK g m n) : ∀ k, chOK (psS m g n k).1 m (psS m g n k).2.1
  | 0 => h
  | k + 1 => by
    have ih := ps_ok h k
    have h1 : chOK (cpG (dyG (psS m g n k).1 m) (psS m g n k).2.1) m (psS m g n k).2.1 := by
      intro j hj
      rw [cpG_t _ (by omega), dyG_11]
      exact ih j hj
    exact chG_ok h1
theorem ps_step {m : Nat} {g g1 : Nat → Nat → Int32} {n n1 k : Nat} (h : eq4 (psS m g n k).1 g1) (hn : n1 = (psS m g n k).2.1) (f : Nat → Int32) : eq4 (psS m g n (k + 1)).1 (va_up (chG (cpG (dyG g1 m) n1) ((List.range n1).filter (stF (dyG g1 m)))) 18 f) ∧ ((List.range n1).filter (stF (dyG g1 m))).length = (psS m g n (k + 1)).2.1 ∧ (psS m g n (k + 1)).2.2 = (psS m g n k).2.2 + (so g1 0 (6 * m)).2 := by
  have e1 : (List.range n1).filter (stF (dyG g1 m)) = dyL (psS m g n k).1 m (psS m g n k).2.1 := by
    rw [← dyL_c h m, ← hn]
    rfl
  rw [e1]
  refine ⟨?_, rfl, ?_⟩
  · intro t a b c d
    rw [up_ne d, hn]
    exact chG_c (cpG_c (dyG_c h m) _) _ t a b c d
  · show (psS m g n k).2.2 + (so (psS m g n k).1 0 (6 * m)).2 = _
    rw [(so_c h 0 (6 * m)).2]
theorem eq4.iv {g g1 : Nat → Nat → Int32} {n : Nat} (h : eq4 g g1) (hI : slInv g n) : slInv g1 n := inv_c hI (h 4 (by omega) (by omega) (by omega) (by omega)) (h 5 (by omega) (by omega) (by omega) (by omega)) (h 7 (by omega) (by omega) (by omega) (by omega))
theorem eq4.ok {g g1 : Nat → Nat → Int32} {m n : Nat} (h : eq4 g g1) (hC : chOK g m n) : chOK g1 m n := by
  unfold chOK
  rw [h 11 (by omega) (by omega) (by omega) (by omega)]
  exact hC
set_option maxHeartbeats 4000000 in
set_option maxRecDepth 100000 in
/-- pass(v) -/
theorem c_X4_pass (l : Launch) (D : va_G) (cA : Nat → ClassId) (e0 : Nat) (A : Nat → Prop) (H0 : Heap) (ad : Nat → Nat → Nat) (g : Nat → Nat → Int32) (tt : Nat → Int64) (N : Nat → Nat) (hX : xW D cA ad g tt N H0) (v : Int32) (hA : xA A e0 ad N) (hI : slInv g (N 0)) (hC : chOK g (N 0) (N 1)) (hdy : ∃ d0, d0 ≤ 999 ∧ g 13 0 = nI d0) (hl9 : l.stackTraces = false) : vx_Met l yX4_pass w_X4_pass ({ frames := 6, cells := 1, slots := 6, locals := 108 } : Room) (xPc D cA e0 A H0 [.ref (ad 0 0), .int (v)]) (xQi (fun r h => (okR 1 30 v ∧ sumI (g 13 0) v ≤ 999) ∧ ∃ ad2 g2 N2, xW D cA ad2 g2 tt N2 h ∧ xA A e0 ad2 N2 ∧ eq4 (psS (N 0) g (N 1) (cl v)).1 g2 ∧ N2 1 = (psS (N 0) g (N 1) (cl v)).2.1 ∧ (∀ c, c ≠ 1 → N2 c = N c) ∧ (∀ c, c ≠ 4 → ad2 c = ad c) ∧ r = nI (psS (N 0) g (N 1) (cl v)).2.2) A) (xX (fun E => (E = xIAE ∧ ¬ okR 1 30 v) ∨ (E = xISE ∧ okR 1 30 v ∧ ¬ (sumI (g 13 0) v ≤ 999)))) 1 6 (A) := by
  refine vx_ofW (cc := cX4_pass) (maxL := 4) (ret := (some .int)) (by decide) rfl ?_
  intro p e s m args below meth c s₁ B hml hxt hv
  obtain ⟨rfl, hH, hE⟩ := hv
  subst hH
  have hx := B.exec
  have hb := B.bytes
  have hr := B.returns
  have hts := hE.1.all ([.ref (ad 0 0), .int (v)] : List Value).toArray
  have hown : s.vm.findClass RX4 = some m.cls := findClass_of_methodNamed B.named
  have hlocks := B.notSynchronized
  have hK := hE.2.1
  have hS : va_S A s.heap s.heap [] := va_S.rf
  have hl := lv_entry ([.ref (ad 0 0), .int (v)]) (n := 4) (Nat.le_of_ble_eq_true rfl)
  rw [lg_entry_eq]
  generalize (lg_sl ([.ref (ad 0 0), .int (v)]) ++ List.replicate (4 - (lg_sl ([.ref (ad 0 0), .int (v)])).length) Slot.unset).toArray = ls at hl ⊢
  have hl : lv_has ls 4 [(0, .ref (ad 0 0)), (1, .int (v))] := hl
  have hn8 := hA.n8
  obtain ⟨d0, hd0, hdd⟩ := hdy
  refine lv_iload_n hx hb dX4_pass_0 rfl (lv_at hl 1 rfl) ?_
  refine lv_iconst (v := nI 1) hx hb dX4_pass_1 (by decide) ?_
  refine lv_bipush (v := nI 30) hx hb dX4_pass_2 (by decide) ?_
  refine xcRi (va_runS (As := [.int (v), .int (nI 1), .int (nI 30)]) (rest := []) ⟨hx, hb, hml, hown, hts⟩ (c_X4_outside l D cA e0 A s.heap v (nI 1) (nI 30)) ⟨(callB_of 3 hts gi_X4_outside rfl rfl rfl (hts _ q_ini_X4) (hts _ q_ml_X4_37) hd_X4_outside ⟨Nat.le_of_ble_eq_true rfl, Nat.le_of_ble_eq_true rfl⟩), hts _ q_st_X4_outside⟩ (xpS hE hS) rfl rfl hl.1 rfl (lv_room (Nat.le_of_ble_eq_true rfl)) dX4_pass_4 ⟨Nat.le_of_ble_eq_true rfl, Nat.le_of_ble_eq_true rfl⟩) ?_
  refine lv_if_eq (tgt := 20) hx hb dX4_pass_7 (by decide) (fun c7 => ?_) (fun c7 => ?_)
  · obtain ⟨w, hw1, hw30, rfl⟩ := (ou_r (a := 1) (b := 30) (by omega) (by omega)).mp c7
    refine lv_aload_n hx hb dX4_pass_20 rfl (lv_at hl 0 rfl) ?_
    refine va_get (D := D) (ci := 5) (v := .int (g 13 0)) (C := RX4) (T := TX4) (N := 11) hx hb hts qi_X4 hown hK (xP1 (hX.main)) 0 rfl rfl 6 (by decide) (hts _ q_fl_X4_115) (fun _ h9 => h9) rfl dX4_pass_21 ?_
    refine lv_iload_n hx hb dX4_pass_24 rfl (lv_at hl 1 rfl) ?_
    refine lv_iadd hx hb dX4_pass_25 ?_
    refine xtop (show ((g 13 0) + (nI (w))) = nI (d0 + w) from by rw [hdd, nI_add]) ?_
    refine lv_sipush (v := nI 999) hx hb dX4_pass_26 (by decide) ?_
    refine lv_icmp_le (tgt := 42) hx hb dX4_pass_29 (by decide) (fun c29 => ?_) (fun c29 => ?_)
    · have c29 : (d0 + w) ≤ 999 := (nI_leI (a := d0 + w) (b := 999) (by omega) (by omega)).mp c29
      refine lv_iconst (v := nI 0) hx hb dX4_pass_42 (by decide) ?_
      refine lv_istore_n (lv' := [(2, .int (nI 0)), (0, .ref (ad 0 0)), (1, .int (nI (w)))]) hx hb dX4_pass_43 rfl hl (by decide) rfl (fun ls hl => ?_)
      refine lv_iconst (v := nI 0) hx hb dX4_pass_44 (by decide) ?_
      refine lv_istore_n (lv' := [(3, .int (nI 0)), (2, .int (nI 0)), (0, .ref (ad 0 0)), (1, .int (nI (w)))]) hx hb dX4_pass_45 rfl hl (by decide) rfl (fun ls hl => ?_)
      have LOOP46 : ∀ (n46 : Nat) (k : Nat) (sold : Nat) (ad1 : Nat → Nat → Nat) (g1 : Nat → Nat → Int32) (N1 : Nat → Nat) (H : Heap) (locs : List Loc) (ls : Array Slot), (k ≤ w) → (xW D cA ad1 g1 tt N1 H) → (xA A e0 ad1 N1) → (eq4 (psS (N 0) g (N 1) k).1 g1) → (N1 1 = (psS (N 0) g (N 1) k).2.1) → (∀ c, c ≠ 1 → N1 c = N c) → (∀ c, c ≠ 4 → ad1 c = ad c) → (sold = (psS (N 0) g (N 1) k).2.2) → va_S A s.heap H locs → (w - k) < n46 → lv_has ls 4 [(3, .int (nI (k))), (2, .int (nI (sold))), (0, .ref (ad1 0 0)), (1, .int (nI (w)))] → W p l e (headSpec w_X4_pass ({ frames := 6, cells := 1, slots := 6, locals := 108 } : Room)).room s m ([.ref (ad 0 0), .int ((nI w))] : List Value).toArray below meth c H locs 0 0 (vx_MQ below (xQi (fun r h => (okR 1 30 (nI w) ∧ sumI (g 13 0) (nI w) ≤ 999) ∧ ∃ ad2 g2 N2, xW D cA ad2 g2 tt N2 h ∧ xA A e0 ad2 N2 ∧ eq4 (psS (N 0) g (N 1) (cl (nI w))).1 g2 ∧ N2 1 = (psS (N 0) g (N 1) (cl (nI w))).2.1 ∧ (∀ c, c ≠ 1 → N2 c = N c) ∧ (∀ c, c ≠ 4 → ad2 c = ad c) ∧ r = nI (psS (N 0) g (N 1) (cl (nI w))).2.2) A) (xX (fun E => (E = xIAE ∧ ¬ okR 1 30 (nI w)) ∨ (E = xISE ∧ okR 1 30 (nI w) ∧ ¬ (sumI (g 13 0) (nI w) ≤ 999)))) ([.ref (ad 0 0), .int ((nI w))] : List Value).toArray s 1 6 (A)) (F0 m 46 ls []) := by
        intro n46
        induction n46 with
        | zero => intro k sold ad1 g1 N1 H locs ls hk hX1 hA1 hg1 hn1 hNc hac hso hS hmeas hl; exact absurd hmeas (Nat.not_lt_zero _)
        | succ n46 ih46 =>
          intro k sold ad1 g1 N1 H locs ls hk hX1 hA1 hg1 hn1 hNc hac hso hS hmeas hl
          have hN0 : N1 0 = N 0 := hNc 0 (by omega)
          have hI1 : slInv g1 (N1 0) := by rw [hN0]; exact eq4.iv hg1 (ps_iv hI k)
          refine lv_iload_n hx hb dX4_pass_46 rfl (lv_at hl 0 rfl) ?_
          refine lv_iload_n hx hb dX4_pass_47 rfl (lv_at hl 3 rfl) ?_
          refine lv_icmp_ge (tgt := 78) hx hb dX4_pass_48 (by decide) (fun c48 => ?_) (fun c48 => ?_)
          · have c48 : w ≤ k := (nI_leI (a := w) (b := k) (by omega) (by omega)).mp c48
            have hkw : k = w := by omega
            refine lv_iload_n hx hb dX4_pass_78 rfl (lv_at hl 1 rfl) ?_
            refine vx_ret ?_
            have hpost : (fun r h => (okR 1 30 (nI w) ∧ sumI (g 13 0) (nI w) ≤ 999) ∧ ∃ ad2 g2 N2, xW D cA ad2 g2 tt N2 h ∧ xA A e0 ad2 N2 ∧ eq4 (psS (N 0) g (N 1) (cl (nI w))).1 g2 ∧ N2 1 = (psS (N 0) g (N 1) (cl (nI w))).2.1 ∧ (∀ c, c ≠ 1 → N2 c = N c) ∧ (∀ c, c ≠ 4 → ad2 c = ad c) ∧ r = nI (psS (N 0) g (N 1) (cl (nI w))).2.2) (nI (sold)) H := by
              have e : cl (nI w) = w := cl_nI (by omega)
              rw [e]
              subst hkw
              exact ⟨⟨⟨k, hw1, hw30, rfl⟩, by unfold sumI; rw [hdd, nI_toInt (by omega), nI_toInt (by omega)]; omega⟩, ad1, g1, N1, hX1, hA1, hg1, hn1, hNc, hac, by rw [hso]⟩
            refine W.widen (k := 1) (n := 6) (by omega) (by omega) ?_
            exact W.iret (v := (nI (sold))) hx hb hr (fun t ht _ => ⟨⟨(nI (sold)), H, rfl, hpost, ht⟩, hS.F ht⟩) hS.2.2 dX4_pass_79
          · have c48 : ¬ (w ≤ k) := fun z => c48 ((nI_leI (a := w) (b := k) (by omega) (by omega)).mpr z)
            refine lv_iload_n hx hb dX4_pass_51 rfl (lv_at hl 1 rfl) ?_
            refine lv_aload_n hx hb dX4_pass_52 rfl (lv_at hl 2 rfl) ?_
            refine xci (va_runV (As := []) (rest := [.int (nI (sold))]) ⟨hx, hb, hml, hown, hts⟩ (c_X4_sellEverywhere l D cA e0 A H ad1 g1 tt N1 hX1 hA1 hI1) ⟨(callB_of 0 hts gi_X4_sellEverywhere rfl rfl rfl (hts _ q_ini_X4) (hts _ q_ml_X4_149) hd_X4_sellEverywhere ⟨Nat.le_of_ble_eq_true rfl, Nat.le_of_ble_eq_true rfl⟩), hts _ q_im_X4_sellEverywhere, hts _ q_sel_X4_X4_sellEverywhere⟩ (xpV hE hS (hX1.main) rfl) rfl rfl hl.1 rfl (lv_room (Nat.le_of_ble_eq_true rfl)) dX4_pass_53 ⟨Nat.le_of_ble_eq_true rfl, Nat.le_of_ble_eq_true rfl⟩) hS (fun q h => h) (fun r_1 H1 locs hP9 hz9 hk9 hS => ?_)
            obtain ⟨hX5, hr5⟩ := hP9
            rw [hr5]
            obtain ⟨g5, hg5⟩ : ∃ z, z = (so g1 0 (6 * N1 0)).1 := ⟨_, rfl⟩
            rw [← hg5] at hX5
            refine lv_iadd hx hb dX4_pass_56 ?_
            refine xtop (show ((nI (sold)) + (nI ((so g1 0 (6 * N1 0)).2))) = nI (sold + ((so g1 0 (6 * N1 0)).2)) from nI_add sold ((so g1 0 (6 * N1 0)).2)) ?_
            refine lv_istore_n (lv' := [(2, .int (nI (sold + ((so g1 0 (6 * N1 0)).2)))), (3, .int (nI (k))), (0, .ref (ad1 0 0)), (1, .int (nI (w)))]) hx hb dX4_pass_57 rfl hl (by decide) rfl (fun ls hl => ?_)
            refine lv_aload_n hx hb dX4_pass_58 rfl (lv_at hl 2 rfl) ?_
            refine lv_dup hx hb dX4_pass_59 rfl ?_
            refine va_get (D := D) (ci := 5) (v := .int (g5 13 0)) (C := RX4) (T := TX4) (N := 11) hx hb hts qi_X4 hown hK (xP1 (hX5.main)) 0 rfl rfl 6 (by decide) (hts _ q_fl_X4_115) (fun _ h9 => h9) rfl dX4_pass_60 ?_
            refine lv_iconst (v := nI 1) hx hb dX4_pass_63 (by decide) ?_
            refine lv_iadd hx hb dX4_pass_64 ?_
            refine xput (D := D) (ci := 5) (v := .int ((g5 13 0) + (nI 1))) (C := RX4) (T := TX4) (N := 11) hx hb hts qi_X4 tyX4 tyX4_ok nmX4 hown hK hS (hX5.main) (hA1.a (xV0 (by omega))) rfl 6 (by decide) (hts _ q_fl_X4_115) (fun _ h9 => h9) rfl (tyX4_ok 6 (by decide)) rfl rfl (Nat.le_of_ble_eq_true rfl) dX4_pass_65 (fun H2 locs hU hS => ?_)
            have hX3 := hX5.pday hA1 hU
            obtain ⟨g3, hg3⟩ : ∃ z, z = va_up g5 13 (upd (g5 13) 0 ((g5 13 0) + (nI 1))) := ⟨_, rfl⟩
            rw [← hg3] at hX3
            refine lv_aload_n hx hb dX4_pass_68 rfl (lv_at hl 2 rfl) ?_
            have hgd : g3 = dyG g1 (N1 0) := by rw [hg3, hg5]; rfl
            have hC6 : chOK g3 (N1 0) (N1 1) := by
              rw [hgd, hN0, hn1]
              intro j hj
              rw [dyG_11]
              exact (eq4.ok hg1 (ps_ok hC k)) j hj
            refine xcv (va_runV (As := []) (rest := []) ⟨hx, hb, hml, hown, hts⟩ (c_X4_changePrices l D cA e0 A H2 ad1 g3 tt N1 hX3 hA1 hC6) ⟨(callB_of 0 hts gi_X4_changePrices rfl rfl rfl (hts _ q_ini_X4) (hts _ q_ml_X4_152) hd_X4_changePrices ⟨Nat.le_of_ble_eq_true rfl, Nat.le_of_ble_eq_true rfl⟩), hts _ q_im_X4_changePrices, hts _ q_sel_X4_X4_changePrices⟩ (xpV hE hS (hX3.main) rfl) rfl rfl hl.1 rfl (lv_room (Nat.le_of_ble_eq_true rfl)) dX4_pass_69 ⟨Nat.le_of_ble_eq_true rfl, Nat.le_of_ble_eq_true rfl⟩) hS (fun q h => h) (fun H4 locs hP9 hz9 hk9 hS => ?_)
            obtain ⟨ad2, g2, N2, hX9, hA9, hR9⟩ := hP9
            refine lv_iinc (v := nI (k + 1)) (lv' := [(3, .int (nI (k + 1))), (2, .int (nI (sold + ((so g1 0 (6 * N1 0)).2)))), (0, .ref (ad1 0 0)), (1, .int (nI (w)))]) hx hb dX4_pass_72 hl (k := 1) rfl (nI_add k 1) (by decide) rfl (fun ls hl => ?_)
            refine lv_goto (tgt := 46) hx hb dX4_pass_75 (by decide) ?_
            rw [hgd] at hR9
            rw [← congrFun (hR9.a 0 (by omega)) 0] at hl
            have hst := ps_step (m := N 0) (n1 := N1 1) hg1 hn1 (g2 18)
            have hX10 := xW_chG hX9 hR9
            have hl9b := hR9.l
            rw [hN0] at hX10 hl9b
            exact ih46 (k + 1) (sold + (so g1 0 (6 * N1 0)).2) ad2 _ N2 H4 locs _ (by omega) hX10 hA9 hst.1 (by rw [hl9b]; exact hst.2.1) (fun c hc => (hR9.n c hc).trans (hNc c hc)) (fun c hc => (hR9.a c hc).trans (hac c hc)) (by rw [hso, hst.2.2, hN0]) hS (by omega) (lv_sub hl [0, 1, 2, 3] rfl)
      exact LOOP46 _ 0 0 ad g N s.heap [] _ (by omega) hX hA (eq4.rfl' g) rfl (fun _ _ => rfl) (fun _ _ => rfl) rfl hS (Nat.lt_succ_self _) (lv_sub hl [0, 1, 2, 3] rfl)
    · have c29 : ¬ ((d0 + w) ≤ 999) := fun z => c29 ((nI_leI (a := d0 + w) (b := 999) (by omega) (by omega)).mpr z)
      exact xthrow (cls := xISE) (text := "it would be later than day 999") hx hb hl9 hE hS hown (by decide +kernel) q_cl_X4_52 q_ini_java_lang_IllegalStateException xth_ISE xgd_ISE (by decide) (hl.1.trans hml.symm) dX4_pass_32 dX4_pass_35 dX4_pass_36 dX4_pass_38 dX4_pass_41 hxt (Nat.le_of_ble_eq_true rfl) (Nat.le_of_ble_eq_true rfl) (Nat.le_of_ble_eq_true rfl) (Nat.le_of_ble_eq_true rfl) hlocks (Or.inr ⟨rfl, ⟨w, hw1, hw30, rfl⟩, fun z => c29 (by unfold sumI at z; rw [hdd, nI_toInt (by omega), nI_toInt (by omega)] at z; omega)⟩) (Nat.le_of_ble_eq_true rfl) (Nat.le_of_ble_eq_true rfl)
  · exact xthrow (cls := xIAE) (text := "days is not 1 to 30") hx hb hl9 hE hS hown (by decide +kernel) q_cl_X4_41 q_ini_java_lang_IllegalArgumentException xth_IAE xgd_IAE (by decide) (hl.1.trans hml.symm) dX4_pass_10 dX4_pass_13 dX4_pass_14 dX4_pass_16 dX4_pass_19 hxt (Nat.le_of_ble_eq_true rfl) (Nat.le_of_ble_eq_true rfl) (Nat.le_of_ble_eq_true rfl) (Nat.le_of_ble_eq_true rfl) hlocks (Or.inl ⟨rfl, fun z => c7 ((ou_r (a := 1) (b := 30) (by omega) (by omega)).mpr z)⟩) (Nat.le_of_ble_eq_true rfl) (Nat.le_of_ble_eq_true rfl)
