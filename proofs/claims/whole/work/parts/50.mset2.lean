/-! The model: minutes set, prices planned, stock that lasts (by p50.py) -/
theorem ou_p {v : Int32} {n : Nat} (hn : n < 2 ^ 30) : ouI v (-1) (nI n - nI 1) = 0 ↔ okP n v := by
  unfold okP okM
  rw [ou_iff, pk_sub_toInt hn (by omega), show (-1 : Int32).toInt = -1 by decide]
  refine ⟨fun h => ?_, fun h => ?_⟩
  · by_cases hv : v.toInt = -1
    · exact Or.inl ((i_eq v (-1)).mpr (by rw [hv]; decide))
    · obtain ⟨j, h1, -, h3⟩ := nI_ex (v := v) (b := (n : Int) - 1) (by omega) (by omega)
      exact Or.inr ⟨j, by omega, h3⟩
  · rcases h with rfl | ⟨j, h1, rfl⟩
    · rw [show (-1 : Int32).toInt = -1 by decide]
      omega
    · rw [nI_toInt (by omega)]
      omega
theorem pl_ge {v : Int32} {n : Nat} (hn : n ≤ 8) (h : okP n v) (hc : 0 ≤ v) : v = nI (plN v) := by
  rcases h with rfl | ⟨i, hi, rfl⟩
  · exact absurd hc (by decide)
  · unfold plN
    rw [if_neg (fun z => by
      have h1 : (nI i).toInt = (-1 : Int32).toInt := by rw [z]
      rw [nI_toInt (by omega), show (-1 : Int32).toInt = -1 by decide] at h1
      omega), cl_nI (by omega)]
theorem pl_lt {v : Int32} {n : Nat} (hn : n ≤ 8) (h : okP n v) (hc : ¬ 0 ≤ v) : nI 8 = nI (plN v) := by
  rcases h with rfl | ⟨i, hi, rfl⟩
  · unfold plN
    rw [if_pos rfl]
  · exact absurd (nI_pos' (by omega)) hc
/-- the numbers agree but for the model's own rows -/
def eqP (g g2 : Nat → Nat → Int32) (k : Nat) : Prop := (∀ t, t ≠ 20 → t ≠ 21 → t ≠ 22 → g2 t = g t) ∧ g2 20 0 = nI k
/-- the planned changes in threes -/
def plOK (g : Nat → Nat → Int32) (np : Nat) : Prop := ∀ k, k < np → g 21 (3 * k) = g 10 k ∧ g 21 (3 * k + 1) = g 11 k ∧ g 21 (3 * k + 2) = g 12 k
def p3F (f : Nat → Int32) (np : Nat) (d s p : Int32) : Nat → Int32 := upd (upd (upd f (3 * np) d) (3 * np + 1) s) (3 * np + 2) p
theorem ro_left {s d k : Nat} (hs : s ≤ 30) (hd : d ≤ 20) (hk : k * d < s) (h : 0 < nI s - nI ((k + 1) * d)) : (k + 1) * d < s := by
  have e : (k + 1) * d = k * d + d := Nat.succ_mul k d
  rw [i_lt, pk_sub_toInt (by omega) (by omega), show (0 : Int32).toInt = 0 by decide] at h
  omega
theorem ro_end {s d k : Nat} (hs : s ≤ 30) (hd : d ≤ 20) (h0 : 0 < d) (hk : k * d < s) (h : ¬ 0 < nI s - nI ((k + 1) * d)) : (s - 1) / d = k := by
  have e : (k + 1) * d = k * d + d := Nat.succ_mul k d
  rw [i_lt, pk_sub_toInt (by omega) (by omega), show (0 : Int32).toInt = 0 by decide] at h
  have h1 : s ≤ (k + 1) * d := by omega
  exact Nat.div_eq_of_lt_le (by omega) (by omega)
theorem ro_le {x : Int32} {s : Nat} (hx : x = nI s) (hs : s ≤ 30) (h : ¬ x = 0) : 0 < s := by
  rcases s with _ | s
  · exact absurd hx h
  · omega
theorem z_le {x : Int32} (h : x = 0) : x ≤ 0 := by
  subst h
  exact Int32.le_refl 0
theorem nle_lt {x : Int32} (h : ¬ x ≤ 0) : 0 < x := by
  rw [i_le] at h
  rw [i_lt]
  omega
theorem le_nlt {x : Int32} (h : x ≤ 0) : ¬ 0 < x := by
  rw [i_le] at h
  rw [i_lt]
  omega
set_option maxHeartbeats 4000000 in
set_option maxRecDepth 100000 in
/-- model.setMinutes -/
theorem c_X5_setMinutes (l : Launch) (D : va_G) (cA : Nat → ClassId) (e0 : Nat) (A : Nat → Prop) (H0 : Heap) (b : Nat → Nat) (g : Nat → Nat → Int32) (tt : Nat → Int64) (n np : Nat) (hX : yW D cA b g tt n np H0) (hA : yA A b n np) (v w x : Int32) : Met l yX5_setMinutes w_X5_setMinutes ({ frames := 1, cells := 0, slots := 0, locals := 22 } : Room) (xPc D cA e0 A H0 [.ref (b 0), .int (v), .int (w), .int (x)]) (xQi (fun r h => (((okP n v ∧ okP n w) ∧ v ≠ w ∧ okR 1 200 x) ∧ r = wy g (plN v) (plN w) ∧ ∃ g2, yW D cA b g2 tt n np h ∧ eqY (va_up g 3 (swF (g 3) (plN v) (plN w) x)) g2 0) ∨ (¬ (okP n v ∧ okP n w) ∧ yW D cA b (thG g 1) tt n np h) ∨ ((okP n v ∧ okP n w) ∧ ¬ (v ≠ w ∧ okR 1 200 x) ∧ yW D cA b (thG g 2) tt n np h)) A) 0 0 (A) := by
  refine Met.ofW (cc := cX5_setMinutes) (maxL := 7) (ret := (some .int)) (by decide) rfl ?_
  intro p e s m args below meth c s₁ B hml hv
  obtain ⟨rfl, hH, hE⟩ := hv
  subst hH
  have hx := B.exec
  have hb := B.bytes
  have hr := B.returns
  have hts := hE.1.all ([.ref (b 0), .int (v), .int (w), .int (x)] : List Value).toArray
  have hown : s.vm.findClass RX5 = some m.cls := findClass_of_methodNamed B.named
  have hlocks := B.notSynchronized
  have hK := hE.2.1
  have hS : va_S A s.heap s.heap [] := va_S.rf
  have hl := lv_entry ([.ref (b 0), .int (v), .int (w), .int (x)]) (n := 7) (Nat.le_of_ble_eq_true rfl)
  rw [lg_entry_eq]
  generalize (lg_sl ([.ref (b 0), .int (v), .int (w), .int (x)]) ++ List.replicate (7 - (lg_sl ([.ref (b 0), .int (v), .int (w), .int (x)])).length) Slot.unset).toArray = ls at hl ⊢
  have hl : lv_has ls 7 [(0, .ref (b 0)), (1, .int (v)), (2, .int (w)), (3, .int (x))] := hl
  have hn8 := hA.2.2.1
  refine lv_aload_n hx hb dX5_setMinutes_0 rfl (lv_at hl 0 rfl) ?_
  refine lv_iconst (v := nI 0) hx hb dX5_setMinutes_1 (by decide) ?_
  refine xput (D := D) (ci := 6) (v := .int (nI 0)) (C := RX5) (T := TX5) (N := 17) hx hb hts qi_X5 tyX5 tyX5_ok nmX5 hown hK hS (hX.main) (hA.a (show 0 < 14 by omega)) rfl 0 (by decide) (hts _ q_fl_X5_50) (fun _ h9 => h9) rfl (tyX5_ok 0 (by decide)) rfl rfl (Nat.le_of_ble_eq_true rfl) dX5_setMinutes_2 (fun H1 locs hU hS => ?_)
  obtain ⟨g1, hg1⟩ : ∃ z, z = thG g 0 := ⟨_, rfl⟩
  have hX1 : yW D cA b g1 tt n np H1 := by rw [hg1]; exact hX.pthr hA hU
  refine lv_iload_n hx hb dX5_setMinutes_5 rfl (lv_at hl 1 rfl) ?_
  refine lv_iconst (v := (-1)) hx hb dX5_setMinutes_6 (by decide) ?_
  refine lv_aload_n hx hb dX5_setMinutes_7 rfl (lv_at hl 0 rfl) ?_
  refine va_get (D := D) (ci := 6) (v := .int (nI (n))) (C := RX5) (T := TX5) (N := 17) hx hb hts qi_X5 hown hK (xP1 (hX1.main)) 0 rfl rfl 2 (by decide) (hts _ q_fl_X5_54) (fun _ h9 => h9) rfl dX5_setMinutes_8 ?_
  refine lv_iconst (v := nI 1) hx hb dX5_setMinutes_11 (by decide) ?_
  refine lv_isub hx hb dX5_setMinutes_12 ?_
  refine xcRi (va_runS (As := [.int (v), .int ((-1)), .int ((nI (n)) - (nI 1))]) (rest := []) ⟨hx, hb, hml, hown, hts⟩ (c_X5_isIn l D cA e0 A H1 v ((-1)) ((nI (n)) - (nI 1))) ⟨(callB_of 3 hts gi_X5_isIn rfl rfl rfl (hts _ q_ini_X5) (hts _ q_ml_X5_57) hd_X5_isIn ⟨Nat.le_of_ble_eq_true rfl, Nat.le_of_ble_eq_true rfl⟩), hts _ q_st_X5_isIn⟩ (xpS hE hS) rfl rfl hl.1 rfl (lv_room (Nat.le_of_ble_eq_true rfl)) dX5_setMinutes_13 ⟨Nat.le_of_ble_eq_true rfl, Nat.le_of_ble_eq_true rfl⟩) ?_
  refine lv_if_eq (tgt := 33) hx hb dX5_setMinutes_16 (by decide) (fun c16 => ?_) (fun c16 => ?_)
  · refine lv_aload_n hx hb dX5_setMinutes_33 rfl (lv_at hl 0 rfl) ?_
    refine lv_iconst (v := nI 1) hx hb dX5_setMinutes_34 (by decide) ?_
    refine xci (va_runV (As := [.int (nI 1)]) (rest := []) ⟨hx, hb, hml, hown, hts⟩ (c_X5_fail l D cA e0 A H1 b g1 tt n np hX1 hA (nI 1)) ⟨(callB_of 1 hts gi_X5_fail rfl rfl rfl (hts _ q_ini_X5) (hts _ q_ml_X5_66) hd_X5_fail ⟨Nat.le_of_ble_eq_true rfl, Nat.le_of_ble_eq_true rfl⟩), hts _ q_im_X5_fail, hts _ q_sel_X5_X5_fail⟩ (xpV hE hS (hX1.main) rfl) rfl rfl hl.1 rfl (lv_room (Nat.le_of_ble_eq_true rfl)) dX5_setMinutes_35 ⟨Nat.le_of_ble_eq_true rfl, Nat.le_of_ble_eq_true rfl⟩) hS (fun q h => h) (fun r_2 H2 locs hP9 hz9 hk9 hS => ?_)
    obtain ⟨hr9, hXf⟩ := hP9
    have hXf : yW D cA b (thG g 1) tt n np H2 := by rw [← thG_2 g 0 1, ← hg1]; exact hXf
    have hpost : (fun r h => (((okP n v ∧ okP n w) ∧ v ≠ w ∧ okR 1 200 x) ∧ r = wy g (plN v) (plN w) ∧ ∃ g2, yW D cA b g2 tt n np h ∧ eqY (va_up g 3 (swF (g 3) (plN v) (plN w) x)) g2 0) ∨ (¬ (okP n v ∧ okP n w) ∧ yW D cA b (thG g 1) tt n np h) ∨ ((okP n v ∧ okP n w) ∧ ¬ (v ≠ w ∧ okR 1 200 x) ∧ yW D cA b (thG g 2) tt n np h)) (r_2) H2 := by
      exact Or.inr (Or.inl ⟨fun z => (in_0.mp c16) ((ou_p (by omega)).mpr z.1), hXf⟩)
    refine W.widen (k := 0) (n := 0) (by omega) (by omega) ?_
    exact W.iret (v := r_2) hx hb hr (fun t ht _ => ⟨⟨r_2, H2, rfl, hpost, ht⟩, hS.F ht⟩) hS.2.2 dX5_setMinutes_38
  · have okv : okP n v := (ou_p (by omega)).mp (Decidable.byContradiction (fun z => c16 (in_0.mpr z)))
    refine lv_iload_n hx hb dX5_setMinutes_19 rfl (lv_at hl 2 rfl) ?_
    refine lv_iconst (v := (-1)) hx hb dX5_setMinutes_20 (by decide) ?_
    refine lv_aload_n hx hb dX5_setMinutes_21 rfl (lv_at hl 0 rfl) ?_
    refine va_get (D := D) (ci := 6) (v := .int (nI (n))) (C := RX5) (T := TX5) (N := 17) hx hb hts qi_X5 hown hK (xP1 (hX1.main)) 0 rfl rfl 2 (by decide) (hts _ q_fl_X5_54) (fun _ h9 => h9) rfl dX5_setMinutes_22 ?_
    refine lv_iconst (v := nI 1) hx hb dX5_setMinutes_25 (by decide) ?_
    refine lv_isub hx hb dX5_setMinutes_26 ?_
    refine xcRi (va_runS (As := [.int (w), .int ((-1)), .int ((nI (n)) - (nI 1))]) (rest := []) ⟨hx, hb, hml, hown, hts⟩ (c_X5_isIn l D cA e0 A H1 w ((-1)) ((nI (n)) - (nI 1))) ⟨(callB_of 3 hts gi_X5_isIn rfl rfl rfl (hts _ q_ini_X5) (hts _ q_ml_X5_57) hd_X5_isIn ⟨Nat.le_of_ble_eq_true rfl, Nat.le_of_ble_eq_true rfl⟩), hts _ q_st_X5_isIn⟩ (xpS hE hS) rfl rfl hl.1 rfl (lv_room (Nat.le_of_ble_eq_true rfl)) dX5_setMinutes_27 ⟨Nat.le_of_ble_eq_true rfl, Nat.le_of_ble_eq_true rfl⟩) ?_
    refine lv_if_ne (tgt := 39) hx hb dX5_setMinutes_30 (by decide) (fun c30 => ?_) (fun c30 => ?_)
    · have okw : okP n w := (ou_p (by omega)).mp (Decidable.byContradiction (fun z => c30 (in_0.mpr z)))
      have hpv : plN v ≤ 8 := (okP_pl hn8 okv).1
      have hpw : plN w ≤ 8 := (okP_pl hn8 okw).1
      refine lv_iload_n hx hb dX5_setMinutes_39 rfl (lv_at hl 1 rfl) ?_
      refine lv_iload_n hx hb dX5_setMinutes_40 rfl (lv_at hl 2 rfl) ?_
      refine lv_icmp_eq (tgt := 55) hx hb dX5_setMinutes_41 (by decide) (fun c41 => ?_) (fun c41 => ?_)
      · refine lv_aload_n hx hb dX5_setMinutes_55 rfl (lv_at hl 0 rfl) ?_
        refine lv_iconst (v := nI 2) hx hb dX5_setMinutes_56 (by decide) ?_
        refine xci (va_runV (As := [.int (nI 2)]) (rest := []) ⟨hx, hb, hml, hown, hts⟩ (c_X5_fail l D cA e0 A H1 b g1 tt n np hX1 hA (nI 2)) ⟨(callB_of 1 hts gi_X5_fail rfl rfl rfl (hts _ q_ini_X5) (hts _ q_ml_X5_66) hd_X5_fail ⟨Nat.le_of_ble_eq_true rfl, Nat.le_of_ble_eq_true rfl⟩), hts _ q_im_X5_fail, hts _ q_sel_X5_X5_fail⟩ (xpV hE hS (hX1.main) rfl) rfl rfl hl.1 rfl (lv_room (Nat.le_of_ble_eq_true rfl)) dX5_setMinutes_57 ⟨Nat.le_of_ble_eq_true rfl, Nat.le_of_ble_eq_true rfl⟩) hS (fun q h => h) (fun r_3 H3 locs hP9 hz9 hk9 hS => ?_)
        obtain ⟨hr9, hXf⟩ := hP9
        have hXf : yW D cA b (thG g 2) tt n np H3 := by rw [← thG_2 g 0 2, ← hg1]; exact hXf
        have hpost : (fun r h => (((okP n v ∧ okP n w) ∧ v ≠ w ∧ okR 1 200 x) ∧ r = wy g (plN v) (plN w) ∧ ∃ g2, yW D cA b g2 tt n np h ∧ eqY (va_up g 3 (swF (g 3) (plN v) (plN w) x)) g2 0) ∨ (¬ (okP n v ∧ okP n w) ∧ yW D cA b (thG g 1) tt n np h) ∨ ((okP n v ∧ okP n w) ∧ ¬ (v ≠ w ∧ okR 1 200 x) ∧ yW D cA b (thG g 2) tt n np h)) (r_3) H3 := by
          exact Or.inr (Or.inr ⟨⟨okv, okw⟩, fun z => z.1 c41, hXf⟩)
        refine W.widen (k := 0) (n := 0) (by omega) (by omega) ?_
        exact W.iret (v := r_3) hx hb hr (fun t ht _ => ⟨⟨r_3, H3, rfl, hpost, ht⟩, hS.F ht⟩) hS.2.2 dX5_setMinutes_60
      · refine lv_iload_n hx hb dX5_setMinutes_44 rfl (lv_at hl 3 rfl) ?_
        refine lv_iconst (v := nI 1) hx hb dX5_setMinutes_45 (by decide) ?_
        refine lv_sipush (v := nI 200) hx hb dX5_setMinutes_46 (by decide) ?_
        refine xcRi (va_runS (As := [.int (x), .int (nI 1), .int (nI 200)]) (rest := []) ⟨hx, hb, hml, hown, hts⟩ (c_X5_isIn l D cA e0 A H1 x (nI 1) (nI 200)) ⟨(callB_of 3 hts gi_X5_isIn rfl rfl rfl (hts _ q_ini_X5) (hts _ q_ml_X5_57) hd_X5_isIn ⟨Nat.le_of_ble_eq_true rfl, Nat.le_of_ble_eq_true rfl⟩), hts _ q_st_X5_isIn⟩ (xpS hE hS) rfl rfl hl.1 rfl (lv_room (Nat.le_of_ble_eq_true rfl)) dX5_setMinutes_49 ⟨Nat.le_of_ble_eq_true rfl, Nat.le_of_ble_eq_true rfl⟩) ?_
        refine lv_if_ne (tgt := 61) hx hb dX5_setMinutes_52 (by decide) (fun c52 => ?_) (fun c52 => ?_)
        · refine lv_iload_n hx hb dX5_setMinutes_61 rfl (lv_at hl 1 rfl) ?_
          refine lv_if_ge (tgt := 70) hx hb dX5_setMinutes_62 (by decide) (fun c62 => ?_) (fun c62 => ?_)
          · refine lv_iload_n hx hb dX5_setMinutes_70 rfl (lv_at hl 1 rfl) ?_
            refine xtop (show (v) = nI (plN v) from pl_ge hn8 okv c62) ?_
            refine lv_istore (lv' := [(4, .int (nI (plN v))), (0, .ref (b 0)), (1, .int (v)), (2, .int (w)), (3, .int (x))]) hx hb dX5_setMinutes_71 hl (by decide) rfl (fun ls hl => ?_)
            refine lv_iload_n hx hb dX5_setMinutes_73 rfl (lv_at hl 3 rfl) ?_
            refine lv_if_ge (tgt := 82) hx hb dX5_setMinutes_74 (by decide) (fun c74 => ?_) (fun c74 => ?_)
            · refine lv_iload_n hx hb dX5_setMinutes_82 rfl (lv_at hl 3 rfl) ?_
              refine xtop (show (w) = nI (plN w) from pl_ge hn8 okw c74) ?_
              refine lv_istore (lv' := [(5, .int (nI (plN w))), (4, .int (nI (plN v))), (0, .ref (b 0)), (1, .int (v)), (2, .int (w)), (3, .int (x))]) hx hb dX5_setMinutes_83 hl (by decide) rfl (fun ls hl => ?_)
              refine lv_aload_n hx hb dX5_setMinutes_85 rfl (lv_at hl 2 rfl) ?_
              refine lv_iload hx hb dX5_setMinutes_86 (lv_at hl 1 rfl) ?_
              refine lv_iload hx hb dX5_setMinutes_88 (lv_at hl 0 rfl) ?_
              refine xcRi (va_runV (As := [.int (nI (plN v)), .int (nI (plN w))]) (rest := []) ⟨hx, hb, hml, hown, hts⟩ (c_X5_way l D cA e0 A H1 b g1 tt n np hX1 (plN v) (plN w) (by omega) (by omega)) ⟨(callB_of 2 hts gi_X5_way rfl rfl rfl (hts _ q_ini_X5) (hts _ q_ml_X5_70) hd_X5_way ⟨Nat.le_of_ble_eq_true rfl, Nat.le_of_ble_eq_true rfl⟩), hts _ q_im_X5_way, hts _ q_sel_X5_X5_way⟩ (xpV hE hS (hX1.main) rfl) rfl rfl hl.1 rfl (lv_room (Nat.le_of_ble_eq_true rfl)) dX5_setMinutes_90 ⟨Nat.le_of_ble_eq_true rfl, Nat.le_of_ble_eq_true rfl⟩) ?_
              refine lv_istore (lv' := [(6, .int (wy g1 (plN v) (plN w))), (5, .int (nI (plN w))), (4, .int (nI (plN v))), (0, .ref (b 0)), (1, .int (v)), (2, .int (w)), (3, .int (x))]) hx hb dX5_setMinutes_93 hl (by decide) rfl (fun ls hl => ?_)
              refine lv_aload_n hx hb dX5_setMinutes_95 rfl (lv_at hl 3 rfl) ?_
              refine va_get (D := D) (ci := 6) (v := .ref (b 4)) (C := RX5) (T := TX5) (N := 17) hx hb hts qi_X5 hown hK (xP1 (hX1.main)) 0 rfl rfl 6 (by decide) (hts _ q_fl_X5_19) (fun _ h9 => h9) rfl dX5_setMinutes_96 ?_
              refine lv_bipush (v := nI 9) hx hb dX5_setMinutes_99 (by decide) ?_
              refine lv_iload hx hb dX5_setMinutes_101 (lv_at hl 2 rfl) ?_
              refine lv_imul hx hb dX5_setMinutes_103 ?_
              refine xtop (show ((nI 9) * (nI (plN v))) = nI (9 * (plN v)) from pk_mul 9 (plN v)) ?_
              refine lv_iload hx hb dX5_setMinutes_104 (lv_at hl 1 rfl) ?_
              refine lv_iadd hx hb dX5_setMinutes_106 ?_
              refine xtop (show ((nI (9 * (plN v))) + (nI (plN w))) = nI ((9 * (plN v)) + (plN w)) from nI_add (9 * (plN v)) (plN w)) ?_
              refine lv_iload_n hx hb dX5_setMinutes_107 rfl (lv_at hl 6 rfl) ?_
              refine xiast (D := D) hx hb hK hS 0 (hX1.t3) (hA.a (show 4 < 14 by omega)) rfl (i := nI ((9 * (plN v)) + (plN w))) (x := x) (vp_in_nI (n := (9 * (plN v)) + (plN w)) (by omega) (by omega)) dX5_setMinutes_108 (fun H4 locs hU hS => ?_)
              rw [nI_clamp (n := (9 * (plN v)) + (plN w)) (by omega)] at hU
              have hX5 := hX1.p3 hA hU
              obtain ⟨g5, hg5⟩ : ∃ z, z = va_up g1 3 (upd (g1 3) ((9 * (plN v)) + (plN w)) (x)) := ⟨_, rfl⟩
              rw [← hg5] at hX5
              refine lv_aload_n hx hb dX5_setMinutes_109 rfl (lv_at hl 3 rfl) ?_
              refine va_get (D := D) (ci := 6) (v := .ref (b 4)) (C := RX5) (T := TX5) (N := 17) hx hb hts qi_X5 hown hK (xP1 (hX5.main)) 0 rfl rfl 6 (by decide) (hts _ q_fl_X5_19) (fun _ h9 => h9) rfl dX5_setMinutes_110 ?_
              refine lv_bipush (v := nI 9) hx hb dX5_setMinutes_113 (by decide) ?_
              refine lv_iload hx hb dX5_setMinutes_115 (lv_at hl 1 rfl) ?_
              refine lv_imul hx hb dX5_setMinutes_117 ?_
              refine xtop (show ((nI 9) * (nI (plN w))) = nI (9 * (plN w)) from pk_mul 9 (plN w)) ?_
              refine lv_iload hx hb dX5_setMinutes_118 (lv_at hl 2 rfl) ?_
              refine lv_iadd hx hb dX5_setMinutes_120 ?_
              refine xtop (show ((nI (9 * (plN w))) + (nI (plN v))) = nI ((9 * (plN w)) + (plN v)) from nI_add (9 * (plN w)) (plN v)) ?_
              refine lv_iload_n hx hb dX5_setMinutes_121 rfl (lv_at hl 6 rfl) ?_
              refine xiast (D := D) hx hb hK hS 0 (hX5.t3) (hA.a (show 4 < 14 by omega)) rfl (i := nI ((9 * (plN w)) + (plN v))) (x := x) (vp_in_nI (n := (9 * (plN w)) + (plN v)) (by omega) (by omega)) dX5_setMinutes_122 (fun H6 locs hU hS => ?_)
              rw [nI_clamp (n := (9 * (plN w)) + (plN v)) (by omega)] at hU
              have hX7 := hX5.p3 hA hU
              obtain ⟨g7, hg7⟩ : ∃ z, z = va_up g5 3 (upd (g5 3) ((9 * (plN w)) + (plN v)) (x)) := ⟨_, rfl⟩
              rw [← hg7] at hX7
              refine lv_iload hx hb dX5_setMinutes_123 (lv_at hl 0 rfl) ?_
              have hpost : (fun r h => (((okP n v ∧ okP n w) ∧ v ≠ w ∧ okR 1 200 x) ∧ r = wy g (plN v) (plN w) ∧ ∃ g2, yW D cA b g2 tt n np h ∧ eqY (va_up g 3 (swF (g 3) (plN v) (plN w) x)) g2 0) ∨ (¬ (okP n v ∧ okP n w) ∧ yW D cA b (thG g 1) tt n np h) ∨ ((okP n v ∧ okP n w) ∧ ¬ (v ≠ w ∧ okR 1 200 x) ∧ yW D cA b (thG g 2) tt n np h)) (wy g1 (plN v) (plN w)) H6 := by
                refine Or.inl ⟨⟨⟨okv, okw⟩, c41, (ou_r (a := 1) (b := 200) (by omega) (by omega)).mp (Decidable.byContradiction (fun z => c52 (in_0.mpr z)))⟩, by rw [hg1, wy_c (thG_t g 0 (by omega))], g7, hX7, fun t a b => ?_, ?_⟩
                · rw [hg7, hg5]
                  by_cases h3 : t = 3
                  · rw [h3, up_eq, up_eq, up_eq, hg1, thG_t g 0 (by omega)]
                    rfl
                  · rw [up_ne h3, up_ne h3, up_ne h3, hg1, thG_t g 0 a]
                · rw [hg7, up_ne (by omega), hg5, up_ne (by omega), hg1]
                  exact thG_20 g 0
              refine W.widen (k := 0) (n := 0) (by omega) (by omega) ?_
              exact W.iret (v := (wy g1 (plN v) (plN w))) hx hb hr (fun t ht _ => ⟨⟨(wy g1 (plN v) (plN w)), H6, rfl, hpost, ht⟩, hS.F ht⟩) hS.2.2 dX5_setMinutes_125
            · refine lv_bipush (v := nI 8) hx hb dX5_setMinutes_77 (by decide) ?_
              refine lv_goto (tgt := 83) hx hb dX5_setMinutes_79 (by decide) ?_
              refine xtop (show (nI 8) = nI (plN w) from pl_lt hn8 okw c74) ?_
              refine lv_istore (lv' := [(5, .int (nI (plN w))), (4, .int (nI (plN v))), (0, .ref (b 0)), (1, .int (v)), (2, .int (w)), (3, .int (x))]) hx hb dX5_setMinutes_83 hl (by decide) rfl (fun ls hl => ?_)
              refine lv_aload_n hx hb dX5_setMinutes_85 rfl (lv_at hl 2 rfl) ?_
              refine lv_iload hx hb dX5_setMinutes_86 (lv_at hl 1 rfl) ?_
              refine lv_iload hx hb dX5_setMinutes_88 (lv_at hl 0 rfl) ?_
              refine xcRi (va_runV (As := [.int (nI (plN v)), .int (nI (plN w))]) (rest := []) ⟨hx, hb, hml, hown, hts⟩ (c_X5_way l D cA e0 A H1 b g1 tt n np hX1 (plN v) (plN w) (by omega) (by omega)) ⟨(callB_of 2 hts gi_X5_way rfl rfl rfl (hts _ q_ini_X5) (hts _ q_ml_X5_70) hd_X5_way ⟨Nat.le_of_ble_eq_true rfl, Nat.le_of_ble_eq_true rfl⟩), hts _ q_im_X5_way, hts _ q_sel_X5_X5_way⟩ (xpV hE hS (hX1.main) rfl) rfl rfl hl.1 rfl (lv_room (Nat.le_of_ble_eq_true rfl)) dX5_setMinutes_90 ⟨Nat.le_of_ble_eq_true rfl, Nat.le_of_ble_eq_true rfl⟩) ?_
              refine lv_istore (lv' := [(6, .int (wy g1 (plN v) (plN w))), (5, .int (nI (plN w))), (4, .int (nI (plN v))), (0, .ref (b 0)), (1, .int (v)), (2, .int (w)), (3, .int (x))]) hx hb dX5_setMinutes_93 hl (by decide) rfl (fun ls hl => ?_)
              refine lv_aload_n hx hb dX5_setMinutes_95 rfl (lv_at hl 3 rfl) ?_
              refine va_get (D := D) (ci := 6) (v := .ref (b 4)) (C := RX5) (T := TX5) (N := 17) hx hb hts qi_X5 hown hK (xP1 (hX1.main)) 0 rfl rfl 6 (by decide) (hts _ q_fl_X5_19) (fun _ h9 => h9) rfl dX5_setMinutes_96 ?_
              refine lv_bipush (v := nI 9) hx hb dX5_setMinutes_99 (by decide) ?_
              refine lv_iload hx hb dX5_setMinutes_101 (lv_at hl 2 rfl) ?_
              refine lv_imul hx hb dX5_setMinutes_103 ?_
              refine xtop (show ((nI 9) * (nI (plN v))) = nI (9 * (plN v)) from pk_mul 9 (plN v)) ?_
              refine lv_iload hx hb dX5_setMinutes_104 (lv_at hl 1 rfl) ?_
              refine lv_iadd hx hb dX5_setMinutes_106 ?_
              refine xtop (show ((nI (9 * (plN v))) + (nI (plN w))) = nI ((9 * (plN v)) + (plN w)) from nI_add (9 * (plN v)) (plN w)) ?_
              refine lv_iload_n hx hb dX5_setMinutes_107 rfl (lv_at hl 6 rfl) ?_
              refine xiast (D := D) hx hb hK hS 0 (hX1.t3) (hA.a (show 4 < 14 by omega)) rfl (i := nI ((9 * (plN v)) + (plN w))) (x := x) (vp_in_nI (n := (9 * (plN v)) + (plN w)) (by omega) (by omega)) dX5_setMinutes_108 (fun H8 locs hU hS => ?_)
              rw [nI_clamp (n := (9 * (plN v)) + (plN w)) (by omega)] at hU
              have hX9 := hX1.p3 hA hU
              obtain ⟨g9, hg9⟩ : ∃ z, z = va_up g1 3 (upd (g1 3) ((9 * (plN v)) + (plN w)) (x)) := ⟨_, rfl⟩
              rw [← hg9] at hX9
              refine lv_aload_n hx hb dX5_setMinutes_109 rfl (lv_at hl 3 rfl) ?_
              refine va_get (D := D) (ci := 6) (v := .ref (b 4)) (C := RX5) (T := TX5) (N := 17) hx hb hts qi_X5 hown hK (xP1 (hX9.main)) 0 rfl rfl 6 (by decide) (hts _ q_fl_X5_19) (fun _ h9 => h9) rfl dX5_setMinutes_110 ?_
              refine lv_bipush (v := nI 9) hx hb dX5_setMinutes_113 (by decide) ?_
              refine lv_iload hx hb dX5_setMinutes_115 (lv_at hl 1 rfl) ?_
              refine lv_imul hx hb dX5_setMinutes_117 ?_
              refine xtop (show ((nI 9) * (nI (plN w))) = nI (9 * (plN w)) from pk_mul 9 (plN w)) ?_
              refine lv_iload hx hb dX5_setMinutes_118 (lv_at hl 2 rfl) ?_
              refine lv_iadd hx hb dX5_setMinutes_120 ?_
              refine xtop (show ((nI (9 * (plN w))) + (nI (plN v))) = nI ((9 * (plN w)) + (plN v)) from nI_add (9 * (plN w)) (plN v)) ?_
              refine lv_iload_n hx hb dX5_setMinutes_121 rfl (lv_at hl 6 rfl) ?_
              refine xiast (D := D) hx hb hK hS 0 (hX9.t3) (hA.a (show 4 < 14 by omega)) rfl (i := nI ((9 * (plN w)) + (plN v))) (x := x) (vp_in_nI (n := (9 * (plN w)) + (plN v)) (by omega) (by omega)) dX5_setMinutes_122 (fun H10 locs hU hS => ?_)
              rw [nI_clamp (n := (9 * (plN w)) + (plN v)) (by omega)] at hU
              have hX11 := hX9.p3 hA hU
              obtain ⟨g11, hg11⟩ : ∃ z, z = va_up g9 3 (upd (g9 3) ((9 * (plN w)) + (plN v)) (x)) := ⟨_, rfl⟩
              rw [← hg11] at hX11
              refine lv_iload hx hb dX5_setMinutes_123 (lv_at hl 0 rfl) ?_
              have hpost : (fun r h => (((okP n v ∧ okP n w) ∧ v ≠ w ∧ okR 1 200 x) ∧ r = wy g (plN v) (plN w) ∧ ∃ g2, yW D cA b g2 tt n np h ∧ eqY (va_up g 3 (swF (g 3) (plN v) (plN w) x)) g2 0) ∨ (¬ (okP n v ∧ okP n w) ∧ yW D cA b (thG g 1) tt n np h) ∨ ((okP n v ∧ okP n w) ∧ ¬ (v ≠ w ∧ okR 1 200 x) ∧ yW D cA b (thG g 2) tt n np h)) (wy g1 (plN v) (plN w)) H10 := by
                refine Or.inl ⟨⟨⟨okv, okw⟩, c41, (ou_r (a := 1) (b := 200) (by omega) (by omega)).mp (Decidable.byContradiction (fun z => c52 (in_0.mpr z)))⟩, by rw [hg1, wy_c (thG_t g 0 (by omega))], g11, hX11, fun t a b => ?_, ?_⟩
                · rw [hg11, hg9]
                  by_cases h3 : t = 3
                  · rw [h3, up_eq, up_eq, up_eq, hg1, thG_t g 0 (by omega)]
                    rfl
                  · rw [up_ne h3, up_ne h3, up_ne h3, hg1, thG_t g 0 a]
                · rw [hg11, up_ne (by omega), hg9, up_ne (by omega), hg1]
                  exact thG_20 g 0
              refine W.widen (k := 0) (n := 0) (by omega) (by omega) ?_
              exact W.iret (v := (wy g1 (plN v) (plN w))) hx hb hr (fun t ht _ => ⟨⟨(wy g1 (plN v) (plN w)), H10, rfl, hpost, ht⟩, hS.F ht⟩) hS.2.2 dX5_setMinutes_125
          · refine lv_bipush (v := nI 8) hx hb dX5_setMinutes_65 (by decide) ?_
            refine lv_goto (tgt := 71) hx hb dX5_setMinutes_67 (by decide) ?_
            refine xtop (show (nI 8) = nI (plN v) from pl_lt hn8 okv c62) ?_
            refine lv_istore (lv' := [(4, .int (nI (plN v))), (0, .ref (b 0)), (1, .int (v)), (2, .int (w)), (3, .int (x))]) hx hb dX5_setMinutes_71 hl (by decide) rfl (fun ls hl => ?_)
            refine lv_iload_n hx hb dX5_setMinutes_73 rfl (lv_at hl 3 rfl) ?_
            refine lv_if_ge (tgt := 82) hx hb dX5_setMinutes_74 (by decide) (fun c74 => ?_) (fun c74 => ?_)
            · refine lv_iload_n hx hb dX5_setMinutes_82 rfl (lv_at hl 3 rfl) ?_
              refine xtop (show (w) = nI (plN w) from pl_ge hn8 okw c74) ?_
              refine lv_istore (lv' := [(5, .int (nI (plN w))), (4, .int (nI (plN v))), (0, .ref (b 0)), (1, .int (v)), (2, .int (w)), (3, .int (x))]) hx hb dX5_setMinutes_83 hl (by decide) rfl (fun ls hl => ?_)
              refine lv_aload_n hx hb dX5_setMinutes_85 rfl (lv_at hl 2 rfl) ?_
              refine lv_iload hx hb dX5_setMinutes_86 (lv_at hl 1 rfl) ?_
              refine lv_iload hx hb dX5_setMinutes_88 (lv_at hl 0 rfl) ?_
              refine xcRi (va_runV (As := [.int (nI (plN v)), .int (nI (plN w))]) (rest := []) ⟨hx, hb, hml, hown, hts⟩ (c_X5_way l D cA e0 A H1 b g1 tt n np hX1 (plN v) (plN w) (by omega) (by omega)) ⟨(callB_of 2 hts gi_X5_way rfl rfl rfl (hts _ q_ini_X5) (hts _ q_ml_X5_70) hd_X5_way ⟨Nat.le_of_ble_eq_true rfl, Nat.le_of_ble_eq_true rfl⟩), hts _ q_im_X5_way, hts _ q_sel_X5_X5_way⟩ (xpV hE hS (hX1.main) rfl) rfl rfl hl.1 rfl (lv_room (Nat.le_of_ble_eq_true rfl)) dX5_setMinutes_90 ⟨Nat.le_of_ble_eq_true rfl, Nat.le_of_ble_eq_true rfl⟩) ?_
              refine lv_istore (lv' := [(6, .int (wy g1 (plN v) (plN w))), (5, .int (nI (plN w))), (4, .int (nI (plN v))), (0, .ref (b 0)), (1, .int (v)), (2, .int (w)), (3, .int (x))]) hx hb dX5_setMinutes_93 hl (by decide) rfl (fun ls hl => ?_)
              refine lv_aload_n hx hb dX5_setMinutes_95 rfl (lv_at hl 3 rfl) ?_
              refine va_get (D := D) (ci := 6) (v := .ref (b 4)) (C := RX5) (T := TX5) (N := 17) hx hb hts qi_X5 hown hK (xP1 (hX1.main)) 0 rfl rfl 6 (by decide) (hts _ q_fl_X5_19) (fun _ h9 => h9) rfl dX5_setMinutes_96 ?_
              refine lv_bipush (v := nI 9) hx hb dX5_setMinutes_99 (by decide) ?_
              refine lv_iload hx hb dX5_setMinutes_101 (lv_at hl 2 rfl) ?_
              refine lv_imul hx hb dX5_setMinutes_103 ?_
              refine xtop (show ((nI 9) * (nI (plN v))) = nI (9 * (plN v)) from pk_mul 9 (plN v)) ?_
              refine lv_iload hx hb dX5_setMinutes_104 (lv_at hl 1 rfl) ?_
              refine lv_iadd hx hb dX5_setMinutes_106 ?_
              refine xtop (show ((nI (9 * (plN v))) + (nI (plN w))) = nI ((9 * (plN v)) + (plN w)) from nI_add (9 * (plN v)) (plN w)) ?_
              refine lv_iload_n hx hb dX5_setMinutes_107 rfl (lv_at hl 6 rfl) ?_
              refine xiast (D := D) hx hb hK hS 0 (hX1.t3) (hA.a (show 4 < 14 by omega)) rfl (i := nI ((9 * (plN v)) + (plN w))) (x := x) (vp_in_nI (n := (9 * (plN v)) + (plN w)) (by omega) (by omega)) dX5_setMinutes_108 (fun H12 locs hU hS => ?_)
              rw [nI_clamp (n := (9 * (plN v)) + (plN w)) (by omega)] at hU
              have hX13 := hX1.p3 hA hU
              obtain ⟨g13, hg13⟩ : ∃ z, z = va_up g1 3 (upd (g1 3) ((9 * (plN v)) + (plN w)) (x)) := ⟨_, rfl⟩
              rw [← hg13] at hX13
              refine lv_aload_n hx hb dX5_setMinutes_109 rfl (lv_at hl 3 rfl) ?_
              refine va_get (D := D) (ci := 6) (v := .ref (b 4)) (C := RX5) (T := TX5) (N := 17) hx hb hts qi_X5 hown hK (xP1 (hX13.main)) 0 rfl rfl 6 (by decide) (hts _ q_fl_X5_19) (fun _ h9 => h9) rfl dX5_setMinutes_110 ?_
              refine lv_bipush (v := nI 9) hx hb dX5_setMinutes_113 (by decide) ?_
              refine lv_iload hx hb dX5_setMinutes_115 (lv_at hl 1 rfl) ?_
              refine lv_imul hx hb dX5_setMinutes_117 ?_
              refine xtop (show ((nI 9) * (nI (plN w))) = nI (9 * (plN w)) from pk_mul 9 (plN w)) ?_
              refine lv_iload hx hb dX5_setMinutes_118 (lv_at hl 2 rfl) ?_
              refine lv_iadd hx hb dX5_setMinutes_120 ?_
              refine xtop (show ((nI (9 * (plN w))) + (nI (plN v))) = nI ((9 * (plN w)) + (plN v)) from nI_add (9 * (plN w)) (plN v)) ?_
              refine lv_iload_n hx hb dX5_setMinutes_121 rfl (lv_at hl 6 rfl) ?_
              refine xiast (D := D) hx hb hK hS 0 (hX13.t3) (hA.a (show 4 < 14 by omega)) rfl (i := nI ((9 * (plN w)) + (plN v))) (x := x) (vp_in_nI (n := (9 * (plN w)) + (plN v)) (by omega) (by omega)) dX5_setMinutes_122 (fun H14 locs hU hS => ?_)
              rw [nI_clamp (n := (9 * (plN w)) + (plN v)) (by omega)] at hU
              have hX15 := hX13.p3 hA hU
              obtain ⟨g15, hg15⟩ : ∃ z, z = va_up g13 3 (upd (g13 3) ((9 * (plN w)) + (plN v)) (x)) := ⟨_, rfl⟩
              rw [← hg15] at hX15
              refine lv_iload hx hb dX5_setMinutes_123 (lv_at hl 0 rfl) ?_
              have hpost : (fun r h => (((okP n v ∧ okP n w) ∧ v ≠ w ∧ okR 1 200 x) ∧ r = wy g (plN v) (plN w) ∧ ∃ g2, yW D cA b g2 tt n np h ∧ eqY (va_up g 3 (swF (g 3) (plN v) (plN w) x)) g2 0) ∨ (¬ (okP n v ∧ okP n w) ∧ yW D cA b (thG g 1) tt n np h) ∨ ((okP n v ∧ okP n w) ∧ ¬ (v ≠ w ∧ okR 1 200 x) ∧ yW D cA b (thG g 2) tt n np h)) (wy g1 (plN v) (plN w)) H14 := by
                refine Or.inl ⟨⟨⟨okv, okw⟩, c41, (ou_r (a := 1) (b := 200) (by omega) (by omega)).mp (Decidable.byContradiction (fun z => c52 (in_0.mpr z)))⟩, by rw [hg1, wy_c (thG_t g 0 (by omega))], g15, hX15, fun t a b => ?_, ?_⟩
                · rw [hg15, hg13]
                  by_cases h3 : t = 3
                  · rw [h3, up_eq, up_eq, up_eq, hg1, thG_t g 0 (by omega)]
                    rfl
                  · rw [up_ne h3, up_ne h3, up_ne h3, hg1, thG_t g 0 a]
                · rw [hg15, up_ne (by omega), hg13, up_ne (by omega), hg1]
                  exact thG_20 g 0
              refine W.widen (k := 0) (n := 0) (by omega) (by omega) ?_
              exact W.iret (v := (wy g1 (plN v) (plN w))) hx hb hr (fun t ht _ => ⟨⟨(wy g1 (plN v) (plN w)), H14, rfl, hpost, ht⟩, hS.F ht⟩) hS.2.2 dX5_setMinutes_125
            · refine lv_bipush (v := nI 8) hx hb dX5_setMinutes_77 (by decide) ?_
              refine lv_goto (tgt := 83) hx hb dX5_setMinutes_79 (by decide) ?_
              refine xtop (show (nI 8) = nI (plN w) from pl_lt hn8 okw c74) ?_
              refine lv_istore (lv' := [(5, .int (nI (plN w))), (4, .int (nI (plN v))), (0, .ref (b 0)), (1, .int (v)), (2, .int (w)), (3, .int (x))]) hx hb dX5_setMinutes_83 hl (by decide) rfl (fun ls hl => ?_)
              refine lv_aload_n hx hb dX5_setMinutes_85 rfl (lv_at hl 2 rfl) ?_
              refine lv_iload hx hb dX5_setMinutes_86 (lv_at hl 1 rfl) ?_
              refine lv_iload hx hb dX5_setMinutes_88 (lv_at hl 0 rfl) ?_
              refine xcRi (va_runV (As := [.int (nI (plN v)), .int (nI (plN w))]) (rest := []) ⟨hx, hb, hml, hown, hts⟩ (c_X5_way l D cA e0 A H1 b g1 tt n np hX1 (plN v) (plN w) (by omega) (by omega)) ⟨(callB_of 2 hts gi_X5_way rfl rfl rfl (hts _ q_ini_X5) (hts _ q_ml_X5_70) hd_X5_way ⟨Nat.le_of_ble_eq_true rfl, Nat.le_of_ble_eq_true rfl⟩), hts _ q_im_X5_way, hts _ q_sel_X5_X5_way⟩ (xpV hE hS (hX1.main) rfl) rfl rfl hl.1 rfl (lv_room (Nat.le_of_ble_eq_true rfl)) dX5_setMinutes_90 ⟨Nat.le_of_ble_eq_true rfl, Nat.le_of_ble_eq_true rfl⟩) ?_
              refine lv_istore (lv' := [(6, .int (wy g1 (plN v) (plN w))), (5, .int (nI (plN w))), (4, .int (nI (plN v))), (0, .ref (b 0)), (1, .int (v)), (2, .int (w)), (3, .int (x))]) hx hb dX5_setMinutes_93 hl (by decide) rfl (fun ls hl => ?_)
              refine lv_aload_n hx hb dX5_setMinutes_95 rfl (lv_at hl 3 rfl) ?_
              refine va_get (D := D) (ci := 6) (v := .ref (b 4)) (C := RX5) (T := TX5) (N := 17) hx hb hts qi_X5 hown hK (xP1 (hX1.main)) 0 rfl rfl 6 (by decide) (hts _ q_fl_X5_19) (fun _ h9 => h9) rfl dX5_setMinutes_96 ?_
              refine lv_bipush (v := nI 9) hx hb dX5_setMinutes_99 (by decide) ?_
              refine lv_iload hx hb dX5_setMinutes_101 (lv_at hl 2 rfl) ?_
              refine lv_imul hx hb dX5_setMinutes_103 ?_
              refine xtop (show ((nI 9) * (nI (plN v))) = nI (9 * (plN v)) from pk_mul 9 (plN v)) ?_
              refine lv_iload hx hb dX5_setMinutes_104 (lv_at hl 1 rfl) ?_
              refine lv_iadd hx hb dX5_setMinutes_106 ?_
              refine xtop (show ((nI (9 * (plN v))) + (nI (plN w))) = nI ((9 * (plN v)) + (plN w)) from nI_add (9 * (plN v)) (plN w)) ?_
              refine lv_iload_n hx hb dX5_setMinutes_107 rfl (lv_at hl 6 rfl) ?_
              refine xiast (D := D) hx hb hK hS 0 (hX1.t3) (hA.a (show 4 < 14 by omega)) rfl (i := nI ((9 * (plN v)) + (plN w))) (x := x) (vp_in_nI (n := (9 * (plN v)) + (plN w)) (by omega) (by omega)) dX5_setMinutes_108 (fun H16 locs hU hS => ?_)
              rw [nI_clamp (n := (9 * (plN v)) + (plN w)) (by omega)] at hU
              have hX17 := hX1.p3 hA hU
              obtain ⟨g17, hg17⟩ : ∃ z, z = va_up g1 3 (upd (g1 3) ((9 * (plN v)) + (plN w)) (x)) := ⟨_, rfl⟩
              rw [← hg17] at hX17
              refine lv_aload_n hx hb dX5_setMinutes_109 rfl (lv_at hl 3 rfl) ?_
              refine va_get (D := D) (ci := 6) (v := .ref (b 4)) (C := RX5) (T := TX5) (N := 17) hx hb hts qi_X5 hown hK (xP1 (hX17.main)) 0 rfl rfl 6 (by decide) (hts _ q_fl_X5_19) (fun _ h9 => h9) rfl dX5_setMinutes_110 ?_
              refine lv_bipush (v := nI 9) hx hb dX5_setMinutes_113 (by decide) ?_
              refine lv_iload hx hb dX5_setMinutes_115 (lv_at hl 1 rfl) ?_
              refine lv_imul hx hb dX5_setMinutes_117 ?_
              refine xtop (show ((nI 9) * (nI (plN w))) = nI (9 * (plN w)) from pk_mul 9 (plN w)) ?_
              refine lv_iload hx hb dX5_setMinutes_118 (lv_at hl 2 rfl) ?_
              refine lv_iadd hx hb dX5_setMinutes_120 ?_
              refine xtop (show ((nI (9 * (plN w))) + (nI (plN v))) = nI ((9 * (plN w)) + (plN v)) from nI_add (9 * (plN w)) (plN v)) ?_
              refine lv_iload_n hx hb dX5_setMinutes_121 rfl (lv_at hl 6 rfl) ?_
              refine xiast (D := D) hx hb hK hS 0 (hX17.t3) (hA.a (show 4 < 14 by omega)) rfl (i := nI ((9 * (plN w)) + (plN v))) (x := x) (vp_in_nI (n := (9 * (plN w)) + (plN v)) (by omega) (by omega)) dX5_setMinutes_122 (fun H18 locs hU hS => ?_)
              rw [nI_clamp (n := (9 * (plN w)) + (plN v)) (by omega)] at hU
              have hX19 := hX17.p3 hA hU
              obtain ⟨g19, hg19⟩ : ∃ z, z = va_up g17 3 (upd (g17 3) ((9 * (plN w)) + (plN v)) (x)) := ⟨_, rfl⟩
              rw [← hg19] at hX19
              refine lv_iload hx hb dX5_setMinutes_123 (lv_at hl 0 rfl) ?_
              have hpost : (fun r h => (((okP n v ∧ okP n w) ∧ v ≠ w ∧ okR 1 200 x) ∧ r = wy g (plN v) (plN w) ∧ ∃ g2, yW D cA b g2 tt n np h ∧ eqY (va_up g 3 (swF (g 3) (plN v) (plN w) x)) g2 0) ∨ (¬ (okP n v ∧ okP n w) ∧ yW D cA b (thG g 1) tt n np h) ∨ ((okP n v ∧ okP n w) ∧ ¬ (v ≠ w ∧ okR 1 200 x) ∧ yW D cA b (thG g 2) tt n np h)) (wy g1 (plN v) (plN w)) H18 := by
                refine Or.inl ⟨⟨⟨okv, okw⟩, c41, (ou_r (a := 1) (b := 200) (by omega) (by omega)).mp (Decidable.byContradiction (fun z => c52 (in_0.mpr z)))⟩, by rw [hg1, wy_c (thG_t g 0 (by omega))], g19, hX19, fun t a b => ?_, ?_⟩
                · rw [hg19, hg17]
                  by_cases h3 : t = 3
                  · rw [h3, up_eq, up_eq, up_eq, hg1, thG_t g 0 (by omega)]
                    rfl
                  · rw [up_ne h3, up_ne h3, up_ne h3, hg1, thG_t g 0 a]
                · rw [hg19, up_ne (by omega), hg17, up_ne (by omega), hg1]
                  exact thG_20 g 0
              refine W.widen (k := 0) (n := 0) (by omega) (by omega) ?_
              exact W.iret (v := (wy g1 (plN v) (plN w))) hx hb hr (fun t ht _ => ⟨⟨(wy g1 (plN v) (plN w)), H18, rfl, hpost, ht⟩, hS.F ht⟩) hS.2.2 dX5_setMinutes_125
        · refine lv_aload_n hx hb dX5_setMinutes_55 rfl (lv_at hl 0 rfl) ?_
          refine lv_iconst (v := nI 2) hx hb dX5_setMinutes_56 (by decide) ?_
          refine xci (va_runV (As := [.int (nI 2)]) (rest := []) ⟨hx, hb, hml, hown, hts⟩ (c_X5_fail l D cA e0 A H1 b g1 tt n np hX1 hA (nI 2)) ⟨(callB_of 1 hts gi_X5_fail rfl rfl rfl (hts _ q_ini_X5) (hts _ q_ml_X5_66) hd_X5_fail ⟨Nat.le_of_ble_eq_true rfl, Nat.le_of_ble_eq_true rfl⟩), hts _ q_im_X5_fail, hts _ q_sel_X5_X5_fail⟩ (xpV hE hS (hX1.main) rfl) rfl rfl hl.1 rfl (lv_room (Nat.le_of_ble_eq_true rfl)) dX5_setMinutes_57 ⟨Nat.le_of_ble_eq_true rfl, Nat.le_of_ble_eq_true rfl⟩) hS (fun q h => h) (fun r_20 H20 locs hP9 hz9 hk9 hS => ?_)
          obtain ⟨hr9, hXf⟩ := hP9
          have hXf : yW D cA b (thG g 2) tt n np H20 := by rw [← thG_2 g 0 2, ← hg1]; exact hXf
          have hpost : (fun r h => (((okP n v ∧ okP n w) ∧ v ≠ w ∧ okR 1 200 x) ∧ r = wy g (plN v) (plN w) ∧ ∃ g2, yW D cA b g2 tt n np h ∧ eqY (va_up g 3 (swF (g 3) (plN v) (plN w) x)) g2 0) ∨ (¬ (okP n v ∧ okP n w) ∧ yW D cA b (thG g 1) tt n np h) ∨ ((okP n v ∧ okP n w) ∧ ¬ (v ≠ w ∧ okR 1 200 x) ∧ yW D cA b (thG g 2) tt n np h)) (r_20) H20 := by
            exact Or.inr (Or.inr ⟨⟨okv, okw⟩, fun z => (in_0.mp c52) ((ou_r (a := 1) (b := 200) (by omega) (by omega)).mpr z.2), hXf⟩)
          refine W.widen (k := 0) (n := 0) (by omega) (by omega) ?_
          exact W.iret (v := r_20) hx hb hr (fun t ht _ => ⟨⟨r_20, H20, rfl, hpost, ht⟩, hS.F ht⟩) hS.2.2 dX5_setMinutes_60
    · refine lv_aload_n hx hb dX5_setMinutes_33 rfl (lv_at hl 0 rfl) ?_
      refine lv_iconst (v := nI 1) hx hb dX5_setMinutes_34 (by decide) ?_
      refine xci (va_runV (As := [.int (nI 1)]) (rest := []) ⟨hx, hb, hml, hown, hts⟩ (c_X5_fail l D cA e0 A H1 b g1 tt n np hX1 hA (nI 1)) ⟨(callB_of 1 hts gi_X5_fail rfl rfl rfl (hts _ q_ini_X5) (hts _ q_ml_X5_66) hd_X5_fail ⟨Nat.le_of_ble_eq_true rfl, Nat.le_of_ble_eq_true rfl⟩), hts _ q_im_X5_fail, hts _ q_sel_X5_X5_fail⟩ (xpV hE hS (hX1.main) rfl) rfl rfl hl.1 rfl (lv_room (Nat.le_of_ble_eq_true rfl)) dX5_setMinutes_35 ⟨Nat.le_of_ble_eq_true rfl, Nat.le_of_ble_eq_true rfl⟩) hS (fun q h => h) (fun r_21 H21 locs hP9 hz9 hk9 hS => ?_)
      obtain ⟨hr9, hXf⟩ := hP9
      have hXf : yW D cA b (thG g 1) tt n np H21 := by rw [← thG_2 g 0 1, ← hg1]; exact hXf
      have hpost : (fun r h => (((okP n v ∧ okP n w) ∧ v ≠ w ∧ okR 1 200 x) ∧ r = wy g (plN v) (plN w) ∧ ∃ g2, yW D cA b g2 tt n np h ∧ eqY (va_up g 3 (swF (g 3) (plN v) (plN w) x)) g2 0) ∨ (¬ (okP n v ∧ okP n w) ∧ yW D cA b (thG g 1) tt n np h) ∨ ((okP n v ∧ okP n w) ∧ ¬ (v ≠ w ∧ okR 1 200 x) ∧ yW D cA b (thG g 2) tt n np h)) (r_21) H21 := by
        exact Or.inr (Or.inl ⟨fun z => (in_0.mp c30) ((ou_p (by omega)).mpr z.2), hXf⟩)
      refine W.widen (k := 0) (n := 0) (by omega) (by omega) ?_
      exact W.iret (v := r_21) hx hb hr (fun t ht _ => ⟨⟨r_21, H21, rfl, hpost, ht⟩, hS.F ht⟩) hS.2.2 dX5_setMinutes_38
set_option maxHeartbeats 4000000 in
set_option maxRecDepth 100000 in
/-- model.planPrice -/
theorem c_X5_planPrice (l : Launch) (D : va_G) (cA : Nat → ClassId) (e0 : Nat) (A : Nat → Prop) (H0 : Heap) (b : Nat → Nat) (g : Nat → Nat → Int32) (tt : Nat → Int64) (n np : Nat) (hX : yW D cA b g tt n np H0) (hA : yA A b n np) (v w x y : Int32) : Met l yX5_planPrice w_X5_planPrice ({ frames := 3, cells := 0, slots := 0, locals := 65 } : Room) (xPc D cA e0 A H0 [.ref (b 0), .int (v), .int (w), .int (x), .int (y)]) (xQi (fun r h => (okS n v w ∧ (ouI x (g 13 0) (nI 999) = 0 ∧ okR 1 1000 y) ∧ ((x = g 13 0 ∧ r = nI np ∧ ∃ g2, yW D cA b g2 tt n np h ∧ eqY (va_up g 6 (upd (g 6) (6 * cl v + cl w) y)) g2 0) ∨ (¬ x = g 13 0 ∧ np < 20 ∧ r = nI (np + 1) ∧ ∃ g2, yW D cA b g2 tt n (np + 1) h ∧ eqP g g2 0 ∧ g2 21 = p3F (g 21) np x (nI (6 * cl v + cl w)) y))) ∨ (¬ okS n v w ∧ yW D cA b (thG g 1) tt n np h) ∨ (okS n v w ∧ ¬ (ouI x (g 13 0) (nI 999) = 0 ∧ okR 1 1000 y) ∧ yW D cA b (thG g 2) tt n np h) ∨ (okS n v w ∧ (ouI x (g 13 0) (nI 999) = 0 ∧ okR 1 1000 y) ∧ ¬ (x = g 13 0 ∨ np < 20) ∧ yW D cA b (thG g 3) tt n np h)) A) 0 0 (A) := by
  refine Met.ofW (cc := cX5_planPrice) (maxL := 6) (ret := (some .int)) (by decide) rfl ?_
  intro p e s m args below meth c s₁ B hml hv
  obtain ⟨rfl, hH, hE⟩ := hv
  subst hH
  have hx := B.exec
  have hb := B.bytes
  have hr := B.returns
  have hts := hE.1.all ([.ref (b 0), .int (v), .int (w), .int (x), .int (y)] : List Value).toArray
  have hown : s.vm.findClass RX5 = some m.cls := findClass_of_methodNamed B.named
  have hlocks := B.notSynchronized
  have hK := hE.2.1
  have hS : va_S A s.heap s.heap [] := va_S.rf
  have hl := lv_entry ([.ref (b 0), .int (v), .int (w), .int (x), .int (y)]) (n := 6) (Nat.le_of_ble_eq_true rfl)
  rw [lg_entry_eq]
  generalize (lg_sl ([.ref (b 0), .int (v), .int (w), .int (x), .int (y)]) ++ List.replicate (6 - (lg_sl ([.ref (b 0), .int (v), .int (w), .int (x), .int (y)])).length) Slot.unset).toArray = ls at hl ⊢
  have hl : lv_has ls 6 [(0, .ref (b 0)), (1, .int (v)), (2, .int (w)), (3, .int (x)), (4, .int (y))] := hl
  have hn8 := hA.2.2.1
  have hnp := hA.2.2.2
  refine lv_aload_n hx hb dX5_planPrice_0 rfl (lv_at hl 0 rfl) ?_
  refine lv_iconst (v := nI 0) hx hb dX5_planPrice_1 (by decide) ?_
  refine xput (D := D) (ci := 6) (v := .int (nI 0)) (C := RX5) (T := TX5) (N := 17) hx hb hts qi_X5 tyX5 tyX5_ok nmX5 hown hK hS (hX.main) (hA.a (show 0 < 14 by omega)) rfl 0 (by decide) (hts _ q_fl_X5_50) (fun _ h9 => h9) rfl (tyX5_ok 0 (by decide)) rfl rfl (Nat.le_of_ble_eq_true rfl) dX5_planPrice_2 (fun H1 locs hU hS => ?_)
  obtain ⟨g1, hg1⟩ : ∃ z, z = thG g 0 := ⟨_, rfl⟩
  have hX1 : yW D cA b g1 tt n np H1 := by rw [hg1]; exact hX.pthr hA hU
  have h13 : g1 13 0 = g 13 0 := by rw [hg1, thG_t g 0 (by omega)]
  refine lv_aload_n hx hb dX5_planPrice_5 rfl (lv_at hl 0 rfl) ?_
  refine lv_iload_n hx hb dX5_planPrice_6 rfl (lv_at hl 1 rfl) ?_
  refine lv_iload_n hx hb dX5_planPrice_7 rfl (lv_at hl 2 rfl) ?_
  refine xcRi (va_runV (As := [.int (v), .int (w)]) (rest := []) ⟨hx, hb, hml, hown, hts⟩ (c_X5_isSlot l D cA e0 A H1 b g1 tt n np hX1 v w) ⟨(callB_of 2 hts gi_X5_isSlot rfl rfl rfl (hts _ q_ini_X5) (hts _ q_ml_X5_74) hd_X5_isSlot ⟨Nat.le_of_ble_eq_true rfl, Nat.le_of_ble_eq_true rfl⟩), hts _ q_im_X5_isSlot, hts _ q_sel_X5_X5_isSlot⟩ (xpV hE hS (hX1.main) rfl) rfl rfl hl.1 rfl (lv_room (Nat.le_of_ble_eq_true rfl)) dX5_planPrice_8 ⟨Nat.le_of_ble_eq_true rfl, Nat.le_of_ble_eq_true rfl⟩) ?_
  refine lv_if_ne (tgt := 20) hx hb dX5_planPrice_11 (by decide) (fun c11 => ?_) (fun c11 => ?_)
  · obtain ⟨i0, j0, hi0, hj0, rfl, rfl⟩ := (is_ok (by omega)).mp c11
    refine lv_iload_n hx hb dX5_planPrice_20 rfl (lv_at hl 3 rfl) ?_
    refine lv_aload_n hx hb dX5_planPrice_21 rfl (lv_at hl 0 rfl) ?_
    refine va_get (D := D) (ci := 6) (v := .int (g1 13 0)) (C := RX5) (T := TX5) (N := 17) hx hb hts qi_X5 hown hK (xP1 (hX1.main)) 0 rfl rfl 1 (by decide) (hts _ q_fl_X5_83) (fun _ h9 => h9) rfl dX5_planPrice_22 ?_
    refine lv_sipush (v := nI 999) hx hb dX5_planPrice_25 (by decide) ?_
    refine xcRi (va_runS (As := [.int (x), .int (g1 13 0), .int (nI 999)]) (rest := []) ⟨hx, hb, hml, hown, hts⟩ (c_X5_isIn l D cA e0 A H1 x (g1 13 0) (nI 999)) ⟨(callB_of 3 hts gi_X5_isIn rfl rfl rfl (hts _ q_ini_X5) (hts _ q_ml_X5_57) hd_X5_isIn ⟨Nat.le_of_ble_eq_true rfl, Nat.le_of_ble_eq_true rfl⟩), hts _ q_st_X5_isIn⟩ (xpS hE hS) rfl rfl hl.1 rfl (lv_room (Nat.le_of_ble_eq_true rfl)) dX5_planPrice_28 ⟨Nat.le_of_ble_eq_true rfl, Nat.le_of_ble_eq_true rfl⟩) ?_
    refine lv_if_eq (tgt := 46) hx hb dX5_planPrice_31 (by decide) (fun c31 => ?_) (fun c31 => ?_)
    · refine lv_aload_n hx hb dX5_planPrice_46 rfl (lv_at hl 0 rfl) ?_
      refine lv_iconst (v := nI 2) hx hb dX5_planPrice_47 (by decide) ?_
      refine xci (va_runV (As := [.int (nI 2)]) (rest := []) ⟨hx, hb, hml, hown, hts⟩ (c_X5_fail l D cA e0 A H1 b g1 tt n np hX1 hA (nI 2)) ⟨(callB_of 1 hts gi_X5_fail rfl rfl rfl (hts _ q_ini_X5) (hts _ q_ml_X5_66) hd_X5_fail ⟨Nat.le_of_ble_eq_true rfl, Nat.le_of_ble_eq_true rfl⟩), hts _ q_im_X5_fail, hts _ q_sel_X5_X5_fail⟩ (xpV hE hS (hX1.main) rfl) rfl rfl hl.1 rfl (lv_room (Nat.le_of_ble_eq_true rfl)) dX5_planPrice_48 ⟨Nat.le_of_ble_eq_true rfl, Nat.le_of_ble_eq_true rfl⟩) hS (fun q h => h) (fun r_2 H2 locs hP9 hz9 hk9 hS => ?_)
      obtain ⟨hr9, hXf⟩ := hP9
      have hXf : yW D cA b (thG g 2) tt n np H2 := by rw [← thG_2 g 0 2, ← hg1]; exact hXf
      have hpost : (fun r h => (okS n (nI i0) (nI j0) ∧ (ouI x (g 13 0) (nI 999) = 0 ∧ okR 1 1000 y) ∧ ((x = g 13 0 ∧ r = nI np ∧ ∃ g2, yW D cA b g2 tt n np h ∧ eqY (va_up g 6 (upd (g 6) (6 * cl (nI i0) + cl (nI j0)) y)) g2 0) ∨ (¬ x = g 13 0 ∧ np < 20 ∧ r = nI (np + 1) ∧ ∃ g2, yW D cA b g2 tt n (np + 1) h ∧ eqP g g2 0 ∧ g2 21 = p3F (g 21) np x (nI (6 * cl (nI i0) + cl (nI j0))) y))) ∨ (¬ okS n (nI i0) (nI j0) ∧ yW D cA b (thG g 1) tt n np h) ∨ (okS n (nI i0) (nI j0) ∧ ¬ (ouI x (g 13 0) (nI 999) = 0 ∧ okR 1 1000 y) ∧ yW D cA b (thG g 2) tt n np h) ∨ (okS n (nI i0) (nI j0) ∧ (ouI x (g 13 0) (nI 999) = 0 ∧ okR 1 1000 y) ∧ ¬ (x = g 13 0 ∨ np < 20) ∧ yW D cA b (thG g 3) tt n np h)) (r_2) H2 := by
        exact Or.inr (Or.inr (Or.inl ⟨⟨i0, j0, hi0, hj0, rfl, rfl⟩, fun z => (in_0.mp c31) (by rw [h13]; exact z.1), hXf⟩))
      refine W.widen (k := 0) (n := 0) (by omega) (by omega) ?_
      exact W.iret (v := r_2) hx hb hr (fun t ht _ => ⟨⟨r_2, H2, rfl, hpost, ht⟩, hS.F ht⟩) hS.2.2 dX5_planPrice_51
    · refine lv_iload hx hb dX5_planPrice_34 (lv_at hl 4 rfl) ?_
      refine lv_iconst (v := nI 1) hx hb dX5_planPrice_36 (by decide) ?_
      refine lv_sipush (v := nI 1000) hx hb dX5_planPrice_37 (by decide) ?_
      refine xcRi (va_runS (As := [.int (y), .int (nI 1), .int (nI 1000)]) (rest := []) ⟨hx, hb, hml, hown, hts⟩ (c_X5_isIn l D cA e0 A H1 y (nI 1) (nI 1000)) ⟨(callB_of 3 hts gi_X5_isIn rfl rfl rfl (hts _ q_ini_X5) (hts _ q_ml_X5_57) hd_X5_isIn ⟨Nat.le_of_ble_eq_true rfl, Nat.le_of_ble_eq_true rfl⟩), hts _ q_st_X5_isIn⟩ (xpS hE hS) rfl rfl hl.1 rfl (lv_room (Nat.le_of_ble_eq_true rfl)) dX5_planPrice_40 ⟨Nat.le_of_ble_eq_true rfl, Nat.le_of_ble_eq_true rfl⟩) ?_
      refine lv_if_ne (tgt := 52) hx hb dX5_planPrice_43 (by decide) (fun c43 => ?_) (fun c43 => ?_)
      · refine lv_iload_n hx hb dX5_planPrice_52 rfl (lv_at hl 3 rfl) ?_
        refine lv_aload_n hx hb dX5_planPrice_53 rfl (lv_at hl 0 rfl) ?_
        refine va_get (D := D) (ci := 6) (v := .int (g1 13 0)) (C := RX5) (T := TX5) (N := 17) hx hb hts qi_X5 hown hK (xP1 (hX1.main)) 0 rfl rfl 1 (by decide) (hts _ q_fl_X5_83) (fun _ h9 => h9) rfl dX5_planPrice_54 ?_
        refine lv_icmp_eq (tgt := 75) hx hb dX5_planPrice_57 (by decide) (fun c57 => ?_) (fun c57 => ?_)
        · refine lv_bipush (v := nI 6) hx hb dX5_planPrice_75 (by decide) ?_
          refine lv_iload_n hx hb dX5_planPrice_77 rfl (lv_at hl 1 rfl) ?_
          refine lv_imul hx hb dX5_planPrice_78 ?_
          refine xtop (show ((nI 6) * (nI (i0))) = nI (6 * i0) from pk_mul 6 i0) ?_
          refine lv_iload_n hx hb dX5_planPrice_79 rfl (lv_at hl 2 rfl) ?_
          refine lv_iadd hx hb dX5_planPrice_80 ?_
          refine xtop (show ((nI (6 * i0)) + (nI (j0))) = nI ((6 * i0) + j0) from nI_add (6 * i0) j0) ?_
          refine lv_istore (lv' := [(5, .int (nI ((6 * i0) + j0))), (0, .ref (b 0)), (1, .int (nI (i0))), (2, .int (nI (j0))), (3, .int (x)), (4, .int (y))]) hx hb dX5_planPrice_81 hl (by decide) rfl (fun ls hl => ?_)
          refine lv_iload_n hx hb dX5_planPrice_83 rfl (lv_at hl 4 rfl) ?_
          refine lv_aload_n hx hb dX5_planPrice_84 rfl (lv_at hl 1 rfl) ?_
          refine va_get (D := D) (ci := 6) (v := .int (g1 13 0)) (C := RX5) (T := TX5) (N := 17) hx hb hts qi_X5 hown hK (xP1 (hX1.main)) 0 rfl rfl 1 (by decide) (hts _ q_fl_X5_83) (fun _ h9 => h9) rfl dX5_planPrice_85 ?_
          refine lv_icmp_ne (tgt := 105) hx hb dX5_planPrice_88 (by decide) (fun hno => absurd hno (fun z => z c57)) (fun _ => ?_)
          refine lv_aload_n hx hb dX5_planPrice_91 rfl (lv_at hl 1 rfl) ?_
          refine va_get (D := D) (ci := 6) (v := .ref (b 7)) (C := RX5) (T := TX5) (N := 17) hx hb hts qi_X5 hown hK (xP1 (hX1.main)) 0 rfl rfl 9 (by decide) (hts _ q_fl_X5_28) (fun _ h9 => h9) rfl dX5_planPrice_92 ?_
          refine lv_iload hx hb dX5_planPrice_95 (lv_at hl 0 rfl) ?_
          refine lv_iload hx hb dX5_planPrice_97 (lv_at hl 5 rfl) ?_
          refine xiast (D := D) hx hb hK hS 0 (hX1.t6) (hA.a (show 7 < 14 by omega)) rfl (i := nI ((6 * i0) + j0)) (x := y) (vp_in_nI (n := (6 * i0) + j0) (by omega) (by omega)) dX5_planPrice_99 (fun H3 locs hU hS => ?_)
          rw [nI_clamp (n := (6 * i0) + j0) (by omega)] at hU
          have hX4 := hX1.p6 hA hU
          obtain ⟨g4, hg4⟩ : ∃ z, z = va_up g1 6 (upd (g1 6) ((6 * i0) + j0) (y)) := ⟨_, rfl⟩
          rw [← hg4] at hX4
          refine lv_aload_n hx hb dX5_planPrice_100 rfl (lv_at hl 1 rfl) ?_
          refine va_get (D := D) (ci := 6) (v := .int (nI (np))) (C := RX5) (T := TX5) (N := 17) hx hb hts qi_X5 hown hK (xP1 (hX4.main)) 0 rfl rfl 13 (by decide) (hts _ q_fl_X5_86) (fun _ h9 => h9) rfl dX5_planPrice_101 ?_
          have hpost : (fun r h => (okS n (nI i0) (nI j0) ∧ (ouI x (g 13 0) (nI 999) = 0 ∧ okR 1 1000 y) ∧ ((x = g 13 0 ∧ r = nI np ∧ ∃ g2, yW D cA b g2 tt n np h ∧ eqY (va_up g 6 (upd (g 6) (6 * cl (nI i0) + cl (nI j0)) y)) g2 0) ∨ (¬ x = g 13 0 ∧ np < 20 ∧ r = nI (np + 1) ∧ ∃ g2, yW D cA b g2 tt n (np + 1) h ∧ eqP g g2 0 ∧ g2 21 = p3F (g 21) np x (nI (6 * cl (nI i0) + cl (nI j0))) y))) ∨ (¬ okS n (nI i0) (nI j0) ∧ yW D cA b (thG g 1) tt n np h) ∨ (okS n (nI i0) (nI j0) ∧ ¬ (ouI x (g 13 0) (nI 999) = 0 ∧ okR 1 1000 y) ∧ yW D cA b (thG g 2) tt n np h) ∨ (okS n (nI i0) (nI j0) ∧ (ouI x (g 13 0) (nI 999) = 0 ∧ okR 1 1000 y) ∧ ¬ (x = g 13 0 ∨ np < 20) ∧ yW D cA b (thG g 3) tt n np h)) (nI (np)) H3 := by
            rw [cl_nI (n := i0) (by omega), cl_nI (n := j0) (by omega)]
            refine Or.inl ⟨⟨i0, j0, hi0, hj0, rfl, rfl⟩, ⟨by rw [← h13]; exact (Decidable.byContradiction (fun z => c31 (in_0.mpr z))), (ou_r (a := 1) (b := 1000) (by omega) (by omega)).mp (Decidable.byContradiction (fun z => c43 (in_0.mpr z)))⟩, Or.inl ⟨by rw [← h13]; exact c57, rfl, g4, hX4, fun t a b => ?_, ?_⟩⟩
            · rw [hg4]
              by_cases h6 : t = 6
              · rw [h6, up_eq, up_eq, hg1, thG_t g 0 (by omega)]
              · rw [up_ne h6, up_ne h6, hg1, thG_t g 0 a]
            · rw [hg4, up_ne (by omega), hg1]
              exact thG_20 g 0
          refine W.widen (k := 0) (n := 0) (by omega) (by omega) ?_
          exact W.iret (v := (nI (np))) hx hb hr (fun t ht _ => ⟨⟨(nI (np)), H3, rfl, hpost, ht⟩, hS.F ht⟩) hS.2.2 dX5_planPrice_104
        · refine lv_aload_n hx hb dX5_planPrice_60 rfl (lv_at hl 0 rfl) ?_
          refine va_get (D := D) (ci := 6) (v := .int (nI (np))) (C := RX5) (T := TX5) (N := 17) hx hb hts qi_X5 hown hK (xP1 (hX1.main)) 0 rfl rfl 13 (by decide) (hts _ q_fl_X5_86) (fun _ h9 => h9) rfl dX5_planPrice_61 ?_
          refine lv_bipush (v := nI 20) hx hb dX5_planPrice_64 (by decide) ?_
          refine lv_icmp_ne (tgt := 75) hx hb dX5_planPrice_66 (by decide) (fun c66 => ?_) (fun c66 => ?_)
          · have c66 : ¬ (np = 20) := fun z => c66 ((nI_eq (a := np) (b := 20) (by omega) (by omega)).mpr z)
            refine lv_bipush (v := nI 6) hx hb dX5_planPrice_75 (by decide) ?_
            refine lv_iload_n hx hb dX5_planPrice_77 rfl (lv_at hl 1 rfl) ?_
            refine lv_imul hx hb dX5_planPrice_78 ?_
            refine xtop (show ((nI 6) * (nI (i0))) = nI (6 * i0) from pk_mul 6 i0) ?_
            refine lv_iload_n hx hb dX5_planPrice_79 rfl (lv_at hl 2 rfl) ?_
            refine lv_iadd hx hb dX5_planPrice_80 ?_
            refine xtop (show ((nI (6 * i0)) + (nI (j0))) = nI ((6 * i0) + j0) from nI_add (6 * i0) j0) ?_
            refine lv_istore (lv' := [(5, .int (nI ((6 * i0) + j0))), (0, .ref (b 0)), (1, .int (nI (i0))), (2, .int (nI (j0))), (3, .int (x)), (4, .int (y))]) hx hb dX5_planPrice_81 hl (by decide) rfl (fun ls hl => ?_)
            refine lv_iload_n hx hb dX5_planPrice_83 rfl (lv_at hl 4 rfl) ?_
            refine lv_aload_n hx hb dX5_planPrice_84 rfl (lv_at hl 1 rfl) ?_
            refine va_get (D := D) (ci := 6) (v := .int (g1 13 0)) (C := RX5) (T := TX5) (N := 17) hx hb hts qi_X5 hown hK (xP1 (hX1.main)) 0 rfl rfl 1 (by decide) (hts _ q_fl_X5_83) (fun _ h9 => h9) rfl dX5_planPrice_85 ?_
            refine lv_icmp_ne (tgt := 105) hx hb dX5_planPrice_88 (by decide) (fun _ => ?_) (fun hno => absurd hno (c57))
            refine lv_aload_n hx hb dX5_planPrice_105 rfl (lv_at hl 1 rfl) ?_
            refine va_get (D := D) (ci := 6) (v := .ref (b 11)) (C := RX5) (T := TX5) (N := 17) hx hb hts qi_X5 hown hK (xP1 (hX1.main)) 0 rfl rfl 14 (by decide) (hts _ q_fl_X5_40) (fun _ h9 => h9) rfl dX5_planPrice_106 ?_
            refine lv_iconst (v := nI 3) hx hb dX5_planPrice_109 (by decide) ?_
            refine lv_aload_n hx hb dX5_planPrice_110 rfl (lv_at hl 1 rfl) ?_
            refine va_get (D := D) (ci := 6) (v := .int (nI (np))) (C := RX5) (T := TX5) (N := 17) hx hb hts qi_X5 hown hK (xP1 (hX1.main)) 0 rfl rfl 13 (by decide) (hts _ q_fl_X5_86) (fun _ h9 => h9) rfl dX5_planPrice_111 ?_
            refine lv_imul hx hb dX5_planPrice_114 ?_
            refine xtop (show ((nI 3) * (nI (np))) = nI (3 * np) from pk_mul 3 np) ?_
            refine lv_iload_n hx hb dX5_planPrice_115 rfl (lv_at hl 4 rfl) ?_
            refine xiast (D := D) hx hb hK hS 0 (hX1.t21) (hA.a (show 11 < 14 by omega)) rfl (i := nI (3 * np)) (x := x) (vp_in_nI (n := 3 * np) (by omega) (by omega)) dX5_planPrice_116 (fun H5 locs hU hS => ?_)
            rw [nI_clamp (n := 3 * np) (by omega)] at hU
            have hX6 := hX1.p21 hA hU
            obtain ⟨g6, hg6⟩ : ∃ z, z = va_up g1 21 (upd (g1 21) (3 * np) (x)) := ⟨_, rfl⟩
            rw [← hg6] at hX6
            refine lv_aload_n hx hb dX5_planPrice_117 rfl (lv_at hl 1 rfl) ?_
            refine va_get (D := D) (ci := 6) (v := .ref (b 11)) (C := RX5) (T := TX5) (N := 17) hx hb hts qi_X5 hown hK (xP1 (hX6.main)) 0 rfl rfl 14 (by decide) (hts _ q_fl_X5_40) (fun _ h9 => h9) rfl dX5_planPrice_118 ?_
            refine lv_iconst (v := nI 3) hx hb dX5_planPrice_121 (by decide) ?_
            refine lv_aload_n hx hb dX5_planPrice_122 rfl (lv_at hl 1 rfl) ?_
            refine va_get (D := D) (ci := 6) (v := .int (nI (np))) (C := RX5) (T := TX5) (N := 17) hx hb hts qi_X5 hown hK (xP1 (hX6.main)) 0 rfl rfl 13 (by decide) (hts _ q_fl_X5_86) (fun _ h9 => h9) rfl dX5_planPrice_123 ?_
            refine lv_imul hx hb dX5_planPrice_126 ?_
            refine xtop (show ((nI 3) * (nI (np))) = nI (3 * np) from pk_mul 3 np) ?_
            refine lv_iconst (v := nI 1) hx hb dX5_planPrice_127 (by decide) ?_
            refine lv_iadd hx hb dX5_planPrice_128 ?_
            refine xtop (show ((nI (3 * np)) + (nI 1)) = nI ((3 * np) + 1) from nI_add (3 * np) 1) ?_
            refine lv_iload hx hb dX5_planPrice_129 (lv_at hl 0 rfl) ?_
            refine xiast (D := D) hx hb hK hS 0 (hX6.t21) (hA.a (show 11 < 14 by omega)) rfl (i := nI ((3 * np) + 1)) (x := nI ((6 * i0) + j0)) (vp_in_nI (n := (3 * np) + 1) (by omega) (by omega)) dX5_planPrice_131 (fun H7 locs hU hS => ?_)
            rw [nI_clamp (n := (3 * np) + 1) (by omega)] at hU
            have hX8 := hX6.p21 hA hU
            obtain ⟨g8, hg8⟩ : ∃ z, z = va_up g6 21 (upd (g6 21) ((3 * np) + 1) (nI ((6 * i0) + j0))) := ⟨_, rfl⟩
            rw [← hg8] at hX8
            refine lv_aload_n hx hb dX5_planPrice_132 rfl (lv_at hl 1 rfl) ?_
            refine va_get (D := D) (ci := 6) (v := .ref (b 11)) (C := RX5) (T := TX5) (N := 17) hx hb hts qi_X5 hown hK (xP1 (hX8.main)) 0 rfl rfl 14 (by decide) (hts _ q_fl_X5_40) (fun _ h9 => h9) rfl dX5_planPrice_133 ?_
            refine lv_iconst (v := nI 3) hx hb dX5_planPrice_136 (by decide) ?_
            refine lv_aload_n hx hb dX5_planPrice_137 rfl (lv_at hl 1 rfl) ?_
            refine va_get (D := D) (ci := 6) (v := .int (nI (np))) (C := RX5) (T := TX5) (N := 17) hx hb hts qi_X5 hown hK (xP1 (hX8.main)) 0 rfl rfl 13 (by decide) (hts _ q_fl_X5_86) (fun _ h9 => h9) rfl dX5_planPrice_138 ?_
            refine lv_imul hx hb dX5_planPrice_141 ?_
            refine xtop (show ((nI 3) * (nI (np))) = nI (3 * np) from pk_mul 3 np) ?_
            refine lv_iconst (v := nI 2) hx hb dX5_planPrice_142 (by decide) ?_
            refine lv_iadd hx hb dX5_planPrice_143 ?_
            refine xtop (show ((nI (3 * np)) + (nI 2)) = nI ((3 * np) + 2) from nI_add (3 * np) 2) ?_
            refine lv_iload hx hb dX5_planPrice_144 (lv_at hl 5 rfl) ?_
            refine xiast (D := D) hx hb hK hS 0 (hX8.t21) (hA.a (show 11 < 14 by omega)) rfl (i := nI ((3 * np) + 2)) (x := y) (vp_in_nI (n := (3 * np) + 2) (by omega) (by omega)) dX5_planPrice_146 (fun H9 locs hU hS => ?_)
            rw [nI_clamp (n := (3 * np) + 2) (by omega)] at hU
            have hX10 := hX8.p21 hA hU
            obtain ⟨g10, hg10⟩ : ∃ z, z = va_up g8 21 (upd (g8 21) ((3 * np) + 2) (y)) := ⟨_, rfl⟩
            rw [← hg10] at hX10
            refine lv_aload_n hx hb dX5_planPrice_147 rfl (lv_at hl 1 rfl) ?_
            refine lv_dup hx hb dX5_planPrice_148 rfl ?_
            refine va_get (D := D) (ci := 6) (v := .int (nI (np))) (C := RX5) (T := TX5) (N := 17) hx hb hts qi_X5 hown hK (xP1 (hX10.main)) 0 rfl rfl 13 (by decide) (hts _ q_fl_X5_86) (fun _ h9 => h9) rfl dX5_planPrice_149 ?_
            refine lv_iconst (v := nI 1) hx hb dX5_planPrice_152 (by decide) ?_
            refine lv_iadd hx hb dX5_planPrice_153 ?_
            refine xtop (show ((nI (np)) + (nI 1)) = nI (np + 1) from nI_add np 1) ?_
            refine xput (D := D) (ci := 6) (v := .int (nI (np + 1))) (C := RX5) (T := TX5) (N := 17) hx hb hts qi_X5 tyX5 tyX5_ok nmX5 hown hK hS (hX10.main) (hA.a (show 0 < 14 by omega)) rfl 13 (by decide) (hts _ q_fl_X5_86) (fun _ h9 => h9) rfl (tyX5_ok 13 (by decide)) rfl rfl (Nat.le_of_ble_eq_true rfl) dX5_planPrice_154 (fun H11 locs hU hS => ?_)
            have hXN : yW D cA b g10 tt n (np + 1) H11 := hX10.pnp hA hU
            refine lv_aload_n hx hb dX5_planPrice_157 rfl (lv_at hl 1 rfl) ?_
            refine va_get (D := D) (ci := 6) (v := .int (nI ((np + 1)))) (C := RX5) (T := TX5) (N := 17) hx hb hts qi_X5 hown hK (xP1 (hXN.main)) 0 rfl rfl 13 (by decide) (hts _ q_fl_X5_86) (fun _ h9 => h9) rfl dX5_planPrice_158 ?_
            have hpost : (fun r h => (okS n (nI i0) (nI j0) ∧ (ouI x (g 13 0) (nI 999) = 0 ∧ okR 1 1000 y) ∧ ((x = g 13 0 ∧ r = nI np ∧ ∃ g2, yW D cA b g2 tt n np h ∧ eqY (va_up g 6 (upd (g 6) (6 * cl (nI i0) + cl (nI j0)) y)) g2 0) ∨ (¬ x = g 13 0 ∧ np < 20 ∧ r = nI (np + 1) ∧ ∃ g2, yW D cA b g2 tt n (np + 1) h ∧ eqP g g2 0 ∧ g2 21 = p3F (g 21) np x (nI (6 * cl (nI i0) + cl (nI j0))) y))) ∨ (¬ okS n (nI i0) (nI j0) ∧ yW D cA b (thG g 1) tt n np h) ∨ (okS n (nI i0) (nI j0) ∧ ¬ (ouI x (g 13 0) (nI 999) = 0 ∧ okR 1 1000 y) ∧ yW D cA b (thG g 2) tt n np h) ∨ (okS n (nI i0) (nI j0) ∧ (ouI x (g 13 0) (nI 999) = 0 ∧ okR 1 1000 y) ∧ ¬ (x = g 13 0 ∨ np < 20) ∧ yW D cA b (thG g 3) tt n np h)) (nI ((np + 1))) H11 := by
              rw [cl_nI (n := i0) (by omega), cl_nI (n := j0) (by omega)]
              refine Or.inl ⟨⟨i0, j0, hi0, hj0, rfl, rfl⟩, ⟨by rw [← h13]; exact (Decidable.byContradiction (fun z => c31 (in_0.mpr z))), (ou_r (a := 1) (b := 1000) (by omega) (by omega)).mp (Decidable.byContradiction (fun z => c43 (in_0.mpr z)))⟩, Or.inr ⟨fun q => c57 (by rw [h13]; exact q), by omega, rfl, g10, hXN, ⟨fun t a b c => ?_, ?_⟩, ?_⟩⟩
              · rw [hg10, up_ne b, hg8, up_ne b, hg6, up_ne b, hg1, thG_t g 0 a]
              · rw [hg10, up_ne (by omega), hg8, up_ne (by omega), hg6, up_ne (by omega), hg1]
                exact thG_20 g 0
              · rw [hg10, up_eq, hg8, up_eq, hg6, up_eq, hg1, thG_t g 0 (by omega)]
                rfl
            refine W.widen (k := 0) (n := 0) (by omega) (by omega) ?_
            exact W.iret (v := (nI ((np + 1)))) hx hb hr (fun t ht _ => ⟨⟨(nI ((np + 1))), H11, rfl, hpost, ht⟩, hS.F ht⟩) hS.2.2 dX5_planPrice_161
          · have c66 : np = 20 := (nI_eq (a := np) (b := 20) (by omega) (by omega)).mp c66
            refine lv_aload_n hx hb dX5_planPrice_69 rfl (lv_at hl 0 rfl) ?_
            refine lv_iconst (v := nI 3) hx hb dX5_planPrice_70 (by decide) ?_
            refine xci (va_runV (As := [.int (nI 3)]) (rest := []) ⟨hx, hb, hml, hown, hts⟩ (c_X5_fail l D cA e0 A H1 b g1 tt n np hX1 hA (nI 3)) ⟨(callB_of 1 hts gi_X5_fail rfl rfl rfl (hts _ q_ini_X5) (hts _ q_ml_X5_66) hd_X5_fail ⟨Nat.le_of_ble_eq_true rfl, Nat.le_of_ble_eq_true rfl⟩), hts _ q_im_X5_fail, hts _ q_sel_X5_X5_fail⟩ (xpV hE hS (hX1.main) rfl) rfl rfl hl.1 rfl (lv_room (Nat.le_of_ble_eq_true rfl)) dX5_planPrice_71 ⟨Nat.le_of_ble_eq_true rfl, Nat.le_of_ble_eq_true rfl⟩) hS (fun q h => h) (fun r_12 H12 locs hP9 hz9 hk9 hS => ?_)
            obtain ⟨hr9, hXf⟩ := hP9
            have hXf : yW D cA b (thG g 3) tt n np H12 := by rw [← thG_2 g 0 3, ← hg1]; exact hXf
            have hpost : (fun r h => (okS n (nI i0) (nI j0) ∧ (ouI x (g 13 0) (nI 999) = 0 ∧ okR 1 1000 y) ∧ ((x = g 13 0 ∧ r = nI np ∧ ∃ g2, yW D cA b g2 tt n np h ∧ eqY (va_up g 6 (upd (g 6) (6 * cl (nI i0) + cl (nI j0)) y)) g2 0) ∨ (¬ x = g 13 0 ∧ np < 20 ∧ r = nI (np + 1) ∧ ∃ g2, yW D cA b g2 tt n (np + 1) h ∧ eqP g g2 0 ∧ g2 21 = p3F (g 21) np x (nI (6 * cl (nI i0) + cl (nI j0))) y))) ∨ (¬ okS n (nI i0) (nI j0) ∧ yW D cA b (thG g 1) tt n np h) ∨ (okS n (nI i0) (nI j0) ∧ ¬ (ouI x (g 13 0) (nI 999) = 0 ∧ okR 1 1000 y) ∧ yW D cA b (thG g 2) tt n np h) ∨ (okS n (nI i0) (nI j0) ∧ (ouI x (g 13 0) (nI 999) = 0 ∧ okR 1 1000 y) ∧ ¬ (x = g 13 0 ∨ np < 20) ∧ yW D cA b (thG g 3) tt n np h)) (r_12) H12 := by
              exact Or.inr (Or.inr (Or.inr ⟨⟨i0, j0, hi0, hj0, rfl, rfl⟩, ⟨by rw [← h13]; exact (Decidable.byContradiction (fun z => c31 (in_0.mpr z))), (ou_r (a := 1) (b := 1000) (by omega) (by omega)).mp (Decidable.byContradiction (fun z => c43 (in_0.mpr z)))⟩, fun z => z.elim (fun q => c57 (by rw [h13]; exact q)) (fun q => by omega), hXf⟩))
            refine W.widen (k := 0) (n := 0) (by omega) (by omega) ?_
            exact W.iret (v := r_12) hx hb hr (fun t ht _ => ⟨⟨r_12, H12, rfl, hpost, ht⟩, hS.F ht⟩) hS.2.2 dX5_planPrice_74
      · refine lv_aload_n hx hb dX5_planPrice_46 rfl (lv_at hl 0 rfl) ?_
        refine lv_iconst (v := nI 2) hx hb dX5_planPrice_47 (by decide) ?_
        refine xci (va_runV (As := [.int (nI 2)]) (rest := []) ⟨hx, hb, hml, hown, hts⟩ (c_X5_fail l D cA e0 A H1 b g1 tt n np hX1 hA (nI 2)) ⟨(callB_of 1 hts gi_X5_fail rfl rfl rfl (hts _ q_ini_X5) (hts _ q_ml_X5_66) hd_X5_fail ⟨Nat.le_of_ble_eq_true rfl, Nat.le_of_ble_eq_true rfl⟩), hts _ q_im_X5_fail, hts _ q_sel_X5_X5_fail⟩ (xpV hE hS (hX1.main) rfl) rfl rfl hl.1 rfl (lv_room (Nat.le_of_ble_eq_true rfl)) dX5_planPrice_48 ⟨Nat.le_of_ble_eq_true rfl, Nat.le_of_ble_eq_true rfl⟩) hS (fun q h => h) (fun r_13 H13 locs hP9 hz9 hk9 hS => ?_)
        obtain ⟨hr9, hXf⟩ := hP9
        have hXf : yW D cA b (thG g 2) tt n np H13 := by rw [← thG_2 g 0 2, ← hg1]; exact hXf
        have hpost : (fun r h => (okS n (nI i0) (nI j0) ∧ (ouI x (g 13 0) (nI 999) = 0 ∧ okR 1 1000 y) ∧ ((x = g 13 0 ∧ r = nI np ∧ ∃ g2, yW D cA b g2 tt n np h ∧ eqY (va_up g 6 (upd (g 6) (6 * cl (nI i0) + cl (nI j0)) y)) g2 0) ∨ (¬ x = g 13 0 ∧ np < 20 ∧ r = nI (np + 1) ∧ ∃ g2, yW D cA b g2 tt n (np + 1) h ∧ eqP g g2 0 ∧ g2 21 = p3F (g 21) np x (nI (6 * cl (nI i0) + cl (nI j0))) y))) ∨ (¬ okS n (nI i0) (nI j0) ∧ yW D cA b (thG g 1) tt n np h) ∨ (okS n (nI i0) (nI j0) ∧ ¬ (ouI x (g 13 0) (nI 999) = 0 ∧ okR 1 1000 y) ∧ yW D cA b (thG g 2) tt n np h) ∨ (okS n (nI i0) (nI j0) ∧ (ouI x (g 13 0) (nI 999) = 0 ∧ okR 1 1000 y) ∧ ¬ (x = g 13 0 ∨ np < 20) ∧ yW D cA b (thG g 3) tt n np h)) (r_13) H13 := by
          exact Or.inr (Or.inr (Or.inl ⟨⟨i0, j0, hi0, hj0, rfl, rfl⟩, fun z => (in_0.mp c43) ((ou_r (a := 1) (b := 1000) (by omega) (by omega)).mpr z.2), hXf⟩))
        refine W.widen (k := 0) (n := 0) (by omega) (by omega) ?_
        exact W.iret (v := r_13) hx hb hr (fun t ht _ => ⟨⟨r_13, H13, rfl, hpost, ht⟩, hS.F ht⟩) hS.2.2 dX5_planPrice_51
  · refine lv_aload_n hx hb dX5_planPrice_14 rfl (lv_at hl 0 rfl) ?_
    refine lv_iconst (v := nI 1) hx hb dX5_planPrice_15 (by decide) ?_
    refine xci (va_runV (As := [.int (nI 1)]) (rest := []) ⟨hx, hb, hml, hown, hts⟩ (c_X5_fail l D cA e0 A H1 b g1 tt n np hX1 hA (nI 1)) ⟨(callB_of 1 hts gi_X5_fail rfl rfl rfl (hts _ q_ini_X5) (hts _ q_ml_X5_66) hd_X5_fail ⟨Nat.le_of_ble_eq_true rfl, Nat.le_of_ble_eq_true rfl⟩), hts _ q_im_X5_fail, hts _ q_sel_X5_X5_fail⟩ (xpV hE hS (hX1.main) rfl) rfl rfl hl.1 rfl (lv_room (Nat.le_of_ble_eq_true rfl)) dX5_planPrice_16 ⟨Nat.le_of_ble_eq_true rfl, Nat.le_of_ble_eq_true rfl⟩) hS (fun q h => h) (fun r_14 H14 locs hP9 hz9 hk9 hS => ?_)
    obtain ⟨hr9, hXf⟩ := hP9
    have hXf : yW D cA b (thG g 1) tt n np H14 := by rw [← thG_2 g 0 1, ← hg1]; exact hXf
    have hpost : (fun r h => (okS n v w ∧ (ouI x (g 13 0) (nI 999) = 0 ∧ okR 1 1000 y) ∧ ((x = g 13 0 ∧ r = nI np ∧ ∃ g2, yW D cA b g2 tt n np h ∧ eqY (va_up g 6 (upd (g 6) (6 * cl v + cl w) y)) g2 0) ∨ (¬ x = g 13 0 ∧ np < 20 ∧ r = nI (np + 1) ∧ ∃ g2, yW D cA b g2 tt n (np + 1) h ∧ eqP g g2 0 ∧ g2 21 = p3F (g 21) np x (nI (6 * cl v + cl w)) y))) ∨ (¬ okS n v w ∧ yW D cA b (thG g 1) tt n np h) ∨ (okS n v w ∧ ¬ (ouI x (g 13 0) (nI 999) = 0 ∧ okR 1 1000 y) ∧ yW D cA b (thG g 2) tt n np h) ∨ (okS n v w ∧ (ouI x (g 13 0) (nI 999) = 0 ∧ okR 1 1000 y) ∧ ¬ (x = g 13 0 ∨ np < 20) ∧ yW D cA b (thG g 3) tt n np h)) (r_14) H14 := by
      exact Or.inr (Or.inl ⟨fun z => (is_ok (by omega)).mpr z c11, hXf⟩)
    refine W.widen (k := 0) (n := 0) (by omega) (by omega) ?_
    exact W.iret (v := r_14) hx hb hr (fun t ht _ => ⟨⟨r_14, H14, rfl, hpost, ht⟩, hS.F ht⟩) hS.2.2 dX5_planPrice_19
set_option maxHeartbeats 4000000 in
set_option maxRecDepth 100000 in
/-- model.runsOut -/
theorem c_X5_runsOut (l : Launch) (D : va_G) (cA : Nat → ClassId) (e0 : Nat) (A : Nat → Prop) (H0 : Heap) (b : Nat → Nat) (g : Nat → Nat → Int32) (tt : Nat → Int64) (n np : Nat) (hX : yW D cA b g tt n np H0) (hA : yA A b n np) (hI : slInv g n) (v w : Int32) : Met l yX5_runsOut w_X5_runsOut ({ frames := 3, cells := 0, slots := 0, locals := 65 } : Room) (xPc D cA e0 A H0 [.ref (b 0), .int (v), .int (w)]) (xQi (fun r h => (okS n v w ∧ r = roF g (6 * cl v + cl w) ∧ yW D cA b (thG g 0) tt n np h) ∨ (¬ okS n v w ∧ yW D cA b (thG g 1) tt n np h)) A) 0 0 (A) := by
  refine Met.ofW (cc := cX5_runsOut) (maxL := 6) (ret := (some .int)) (by decide) rfl ?_
  intro p e s m args below meth c s₁ B hml hv
  obtain ⟨rfl, hH, hE⟩ := hv
  subst hH
  have hx := B.exec
  have hb := B.bytes
  have hr := B.returns
  have hts := hE.1.all ([.ref (b 0), .int (v), .int (w)] : List Value).toArray
  have hown : s.vm.findClass RX5 = some m.cls := findClass_of_methodNamed B.named
  have hlocks := B.notSynchronized
  have hK := hE.2.1
  have hS : va_S A s.heap s.heap [] := va_S.rf
  have hl := lv_entry ([.ref (b 0), .int (v), .int (w)]) (n := 6) (Nat.le_of_ble_eq_true rfl)
  rw [lg_entry_eq]
  generalize (lg_sl ([.ref (b 0), .int (v), .int (w)]) ++ List.replicate (6 - (lg_sl ([.ref (b 0), .int (v), .int (w)])).length) Slot.unset).toArray = ls at hl ⊢
  have hl : lv_has ls 6 [(0, .ref (b 0)), (1, .int (v)), (2, .int (w))] := hl
  have hn8 := hA.2.2.1
  refine lv_aload_n hx hb dX5_runsOut_0 rfl (lv_at hl 0 rfl) ?_
  refine lv_iconst (v := nI 0) hx hb dX5_runsOut_1 (by decide) ?_
  refine xput (D := D) (ci := 6) (v := .int (nI 0)) (C := RX5) (T := TX5) (N := 17) hx hb hts qi_X5 tyX5 tyX5_ok nmX5 hown hK hS (hX.main) (hA.a (show 0 < 14 by omega)) rfl 0 (by decide) (hts _ q_fl_X5_50) (fun _ h9 => h9) rfl (tyX5_ok 0 (by decide)) rfl rfl (Nat.le_of_ble_eq_true rfl) dX5_runsOut_2 (fun H1 locs hU hS => ?_)
  obtain ⟨g1, hg1⟩ : ∃ z, z = thG g 0 := ⟨_, rfl⟩
  have hX1 : yW D cA b g1 tt n np H1 := by rw [hg1]; exact hX.pthr hA hU
  refine lv_aload_n hx hb dX5_runsOut_5 rfl (lv_at hl 0 rfl) ?_
  refine lv_iload_n hx hb dX5_runsOut_6 rfl (lv_at hl 1 rfl) ?_
  refine lv_iload_n hx hb dX5_runsOut_7 rfl (lv_at hl 2 rfl) ?_
  refine xcRi (va_runV (As := [.int (v), .int (w)]) (rest := []) ⟨hx, hb, hml, hown, hts⟩ (c_X5_isSlot l D cA e0 A H1 b g1 tt n np hX1 v w) ⟨(callB_of 2 hts gi_X5_isSlot rfl rfl rfl (hts _ q_ini_X5) (hts _ q_ml_X5_74) hd_X5_isSlot ⟨Nat.le_of_ble_eq_true rfl, Nat.le_of_ble_eq_true rfl⟩), hts _ q_im_X5_isSlot, hts _ q_sel_X5_X5_isSlot⟩ (xpV hE hS (hX1.main) rfl) rfl rfl hl.1 rfl (lv_room (Nat.le_of_ble_eq_true rfl)) dX5_runsOut_8 ⟨Nat.le_of_ble_eq_true rfl, Nat.le_of_ble_eq_true rfl⟩) ?_
  refine lv_if_ne (tgt := 20) hx hb dX5_runsOut_11 (by decide) (fun c11 => ?_) (fun c11 => ?_)
  · obtain ⟨i0, j0, hi0, hj0, rfl, rfl⟩ := (is_ok (by omega)).mp c11
    refine lv_bipush (v := nI 6) hx hb dX5_runsOut_20 (by decide) ?_
    refine lv_iload_n hx hb dX5_runsOut_22 rfl (lv_at hl 1 rfl) ?_
    refine lv_imul hx hb dX5_runsOut_23 ?_
    refine xtop (show ((nI 6) * (nI (i0))) = nI (6 * i0) from pk_mul 6 i0) ?_
    refine lv_iload_n hx hb dX5_runsOut_24 rfl (lv_at hl 2 rfl) ?_
    refine lv_iadd hx hb dX5_runsOut_25 ?_
    refine xtop (show ((nI (6 * i0)) + (nI (j0))) = nI ((6 * i0) + j0) from nI_add (6 * i0) j0) ?_
    refine lv_istore_n (lv' := [(3, .int (nI ((6 * i0) + j0))), (0, .ref (b 0)), (1, .int (nI (i0))), (2, .int (nI (j0)))]) hx hb dX5_runsOut_26 rfl hl (by decide) rfl (fun ls hl => ?_)
    obtain ⟨ca, s0, d0, h4, h5, h7, hsc, hc30, hd20⟩ := hI (6 * i0 + j0) (by omega)
    have h51 : g1 5 (6 * i0 + j0) = nI s0 := by rw [hg1, thG_t g 0 (by omega)]; exact h5
    have h71 : g1 7 (6 * i0 + j0) = nI d0 := by rw [hg1, thG_t g 0 (by omega)]; exact h7
    have hro : g1 13 0 = g 13 0 := by rw [hg1, thG_t g 0 (by omega)]
    refine lv_aload_n hx hb dX5_runsOut_27 rfl (lv_at hl 1 rfl) ?_
    refine va_get (D := D) (ci := 6) (v := .ref (b 6)) (C := RX5) (T := TX5) (N := 17) hx hb hts qi_X5 hown hK (xP1 (hX1.main)) 0 rfl rfl 8 (by decide) (hts _ q_fl_X5_25) (fun _ h9 => h9) rfl dX5_runsOut_28 ?_
    refine lv_iload_n hx hb dX5_runsOut_31 rfl (lv_at hl 0 rfl) ?_
    refine va_iald hx hb hK (xP1 (hX1.t5)) 0 0 rfl rfl (i := nI ((6 * i0) + j0)) (vp_in_nI (n := (6 * i0) + j0) (by omega) (by omega)) dX5_runsOut_32 ?_
    refine xtop (show ((fun z => g1 5 (z)) (nI ((6 * i0) + j0)).toNatClampNeg) = g1 5 ((6 * i0) + j0) from by rw [nI_clamp (n := (6 * i0) + j0) (by omega)]) ?_
    refine lv_if_eq (tgt := 45) hx hb dX5_runsOut_33 (by decide) (fun c33 => ?_) (fun c33 => ?_)
    · refine lv_iconst (v := (-1)) hx hb dX5_runsOut_45 (by decide) ?_
      have hpost : (fun r h => (okS n (nI i0) (nI j0) ∧ r = roF g (6 * cl (nI i0) + cl (nI j0)) ∧ yW D cA b (thG g 0) tt n np h) ∨ (¬ okS n (nI i0) (nI j0) ∧ yW D cA b (thG g 1) tt n np h)) ((-1)) H1 := by
        rw [cl_nI (n := i0) (by omega), cl_nI (n := j0) (by omega), ← hg1]
        refine Or.inl ⟨⟨i0, j0, hi0, hj0, rfl, rfl⟩, ?_, hX1⟩
        unfold roF
        rw [h5, h7]
        rw [if_pos (Or.inl (z_le (h51.symm.trans c33)))]
      refine W.widen (k := 0) (n := 0) (by omega) (by omega) ?_
      exact W.iret (v := ((-1))) hx hb hr (fun t ht _ => ⟨⟨((-1)), H1, rfl, hpost, ht⟩, hS.F ht⟩) hS.2.2 dX5_runsOut_46
    · have hs0 : 0 < s0 := ro_le h51 (by omega) c33
      refine lv_aload_n hx hb dX5_runsOut_36 rfl (lv_at hl 1 rfl) ?_
      refine va_get (D := D) (ci := 6) (v := .ref (b 8)) (C := RX5) (T := TX5) (N := 17) hx hb hts qi_X5 hown hK (xP1 (hX1.main)) 0 rfl rfl 10 (by decide) (hts _ q_fl_X5_31) (fun _ h9 => h9) rfl dX5_runsOut_37 ?_
      refine lv_iload_n hx hb dX5_runsOut_40 rfl (lv_at hl 0 rfl) ?_
      refine va_iald hx hb hK (xP1 (hX1.t7)) 0 0 rfl rfl (i := nI ((6 * i0) + j0)) (vp_in_nI (n := (6 * i0) + j0) (by omega) (by omega)) dX5_runsOut_41 ?_
      refine xtop (show ((fun z => g1 7 (z)) (nI ((6 * i0) + j0)).toNatClampNeg) = g1 7 ((6 * i0) + j0) from by rw [nI_clamp (n := (6 * i0) + j0) (by omega)]) ?_
      refine lv_if_ne (tgt := 47) hx hb dX5_runsOut_42 (by decide) (fun c42 => ?_) (fun c42 => ?_)
      · have hd0 : 0 < d0 := ro_le h71 (by omega) c42
        refine lv_aload_n hx hb dX5_runsOut_47 rfl (lv_at hl 1 rfl) ?_
        refine va_get (D := D) (ci := 6) (v := .int (g1 13 0)) (C := RX5) (T := TX5) (N := 17) hx hb hts qi_X5 hown hK (xP1 (hX1.main)) 0 rfl rfl 1 (by decide) (hts _ q_fl_X5_83) (fun _ h9 => h9) rfl dX5_runsOut_48 ?_
        refine xtop (show (g1 13 0) = g1 13 0 + nI 0 from (Int32.add_zero _).symm) ?_
        refine lv_istore (lv' := [(4, .int (g1 13 0 + nI 0)), (3, .int (nI ((6 * i0) + j0))), (0, .ref (b 0)), (1, .int (nI (i0))), (2, .int (nI (j0)))]) hx hb dX5_runsOut_51 hl (by decide) rfl (fun ls hl => ?_)
        refine lv_aload_n hx hb dX5_runsOut_53 rfl (lv_at hl 2 rfl) ?_
        refine va_get (D := D) (ci := 6) (v := .ref (b 6)) (C := RX5) (T := TX5) (N := 17) hx hb hts qi_X5 hown hK (xP1 (hX1.main)) 0 rfl rfl 8 (by decide) (hts _ q_fl_X5_25) (fun _ h9 => h9) rfl dX5_runsOut_54 ?_
        refine lv_iload_n hx hb dX5_runsOut_57 rfl (lv_at hl 1 rfl) ?_
        refine va_iald hx hb hK (xP1 (hX1.t5)) 0 0 rfl rfl (i := nI ((6 * i0) + j0)) (vp_in_nI (n := (6 * i0) + j0) (by omega) (by omega)) dX5_runsOut_58 ?_
        refine xtop (show ((fun z => g1 5 (z)) (nI ((6 * i0) + j0)).toNatClampNeg) = g1 5 ((6 * i0) + j0) from by rw [nI_clamp (n := (6 * i0) + j0) (by omega)]) ?_
        refine lv_aload_n hx hb dX5_runsOut_59 rfl (lv_at hl 2 rfl) ?_
        refine va_get (D := D) (ci := 6) (v := .ref (b 8)) (C := RX5) (T := TX5) (N := 17) hx hb hts qi_X5 hown hK (xP1 (hX1.main)) 0 rfl rfl 10 (by decide) (hts _ q_fl_X5_31) (fun _ h9 => h9) rfl dX5_runsOut_60 ?_
        refine lv_iload_n hx hb dX5_runsOut_63 rfl (lv_at hl 1 rfl) ?_
        refine va_iald hx hb hK (xP1 (hX1.t7)) 0 0 rfl rfl (i := nI ((6 * i0) + j0)) (vp_in_nI (n := (6 * i0) + j0) (by omega) (by omega)) dX5_runsOut_64 ?_
        refine xtop (show ((fun z => g1 7 (z)) (nI ((6 * i0) + j0)).toNatClampNeg) = g1 7 ((6 * i0) + j0) from by rw [nI_clamp (n := (6 * i0) + j0) (by omega)]) ?_
        refine lv_isub hx hb dX5_runsOut_65 ?_
        refine xtop (show ((g1 5 ((6 * i0) + j0)) - (g1 7 ((6 * i0) + j0))) = nI s0 - nI ((0 + 1) * d0) from by rw [h51, h71, show (0 + 1) * d0 = d0 by omega]) ?_
        refine lv_istore (lv' := [(5, .int (nI s0 - nI ((0 + 1) * d0))), (4, .int (g1 13 0 + nI 0)), (3, .int (nI ((6 * i0) + j0))), (0, .ref (b 0)), (1, .int (nI (i0))), (2, .int (nI (j0)))]) hx hb dX5_runsOut_66 hl (by decide) rfl (fun ls hl => ?_)
        have LOOP68 : ∀ (n68 : Nat) (k : Nat) (ls : Array Slot), (k * d0 < s0) → (s0 - k * d0) < n68 → lv_has ls 6 [(5, .int (nI s0 - nI ((k + 1) * d0))), (4, .int (g1 13 0 + nI k)), (3, .int (nI ((6 * i0 + j0)))), (0, .ref (b 0))] → W p l e (headSpec w_X5_runsOut ({ frames := 3, cells := 0, slots := 0, locals := 65 } : Room)).room s m ([.ref (b 0), .int ((nI i0)), .int ((nI j0))] : List Value).toArray below meth c H1 locs 0 0 (MQ below (xQi (fun r h => (okS n (nI i0) (nI j0) ∧ r = roF g (6 * cl (nI i0) + cl (nI j0)) ∧ yW D cA b (thG g 0) tt n np h) ∨ (¬ okS n (nI i0) (nI j0) ∧ yW D cA b (thG g 1) tt n np h)) A) ([.ref (b 0), .int ((nI i0)), .int ((nI j0))] : List Value).toArray s 0 0 (A)) (F0 m 68 ls []) := by
          intro n68
          induction n68 with
          | zero => intro k ls hk hmeas hl; exact absurd hmeas (Nat.not_lt_zero _)
          | succ n68 ih68 =>
            intro k ls hk hmeas hl
            refine lv_iload hx hb dX5_runsOut_68 (lv_at hl 0 rfl) ?_
            refine lv_if_le (tgt := 90) hx hb dX5_runsOut_70 (by decide) (fun c70 => ?_) (fun c70 => ?_)
            · refine lv_iload hx hb dX5_runsOut_90 (lv_at hl 1 rfl) ?_
              have hpost : (fun r h => (okS n (nI i0) (nI j0) ∧ r = roF g (6 * cl (nI i0) + cl (nI j0)) ∧ yW D cA b (thG g 0) tt n np h) ∨ (¬ okS n (nI i0) (nI j0) ∧ yW D cA b (thG g 1) tt n np h)) (g1 13 0 + nI k) H1 := by
                rw [cl_nI (n := i0) (by omega), cl_nI (n := j0) (by omega), ← hg1]
                refine Or.inl ⟨⟨i0, j0, hi0, hj0, rfl, rfl⟩, ?_, hX1⟩
                unfold roF
                rw [h5, h7]
                rw [if_neg (fun z => z.elim (fun q => nI_nle hs0 (by omega) q) (fun q => nI_nle hd0 (by omega) q)), pk_sub (by omega), pk_div (by omega) hd0 (by omega), ro_end (by omega) hd20 hd0 hk (le_nlt c70), hro]
              refine W.widen (k := 0) (n := 0) (by omega) (by omega) ?_
              exact W.iret (v := (g1 13 0 + nI k)) hx hb hr (fun t ht _ => ⟨⟨(g1 13 0 + nI k), H1, rfl, hpost, ht⟩, hS.F ht⟩) hS.2.2 dX5_runsOut_92
            · have hlt := ro_left (by omega) hd20 hk (nle_lt c70)
              have hsm : (k + 1) * d0 = k * d0 + d0 := Nat.succ_mul k d0
              refine lv_iinc (v := g1 13 0 + nI (k + 1)) (lv' := [(4, .int (g1 13 0 + nI (k + 1))), (5, .int (nI s0 - nI ((k + 1) * d0))), (3, .int (nI ((6 * i0 + j0)))), (0, .ref (b 0))]) hx hb dX5_runsOut_73 hl (k := 1) rfl (by rw [← nI_add k 1, ← Int32.add_assoc] <;> rfl) (by decide) rfl (fun ls hl => ?_)
              refine lv_iload hx hb dX5_runsOut_76 (lv_at hl 1 rfl) ?_
              refine lv_aload_n hx hb dX5_runsOut_78 rfl (lv_at hl 3 rfl) ?_
              refine va_get (D := D) (ci := 6) (v := .ref (b 8)) (C := RX5) (T := TX5) (N := 17) hx hb hts qi_X5 hown hK (xP1 (hX1.main)) 0 rfl rfl 10 (by decide) (hts _ q_fl_X5_31) (fun _ h9 => h9) rfl dX5_runsOut_79 ?_
              refine lv_iload_n hx hb dX5_runsOut_82 rfl (lv_at hl 2 rfl) ?_
              refine va_iald hx hb hK (xP1 (hX1.t7)) 0 0 rfl rfl (i := nI ((6 * i0 + j0))) (vp_in_nI (n := (6 * i0 + j0)) (by omega) (by omega)) dX5_runsOut_83 ?_
              refine xtop (show ((fun z => g1 7 (z)) (nI ((6 * i0 + j0))).toNatClampNeg) = g1 7 ((6 * i0 + j0)) from by rw [nI_clamp (n := (6 * i0 + j0)) (by omega)]) ?_
              refine lv_isub hx hb dX5_runsOut_84 ?_
              refine xtop (show ((nI s0 - nI ((k + 1) * d0)) - (g1 7 ((6 * i0 + j0)))) = nI s0 - nI ((k + 1 + 1) * d0) from by rw [h71, Int32.sub_sub, nI_add, Nat.succ_mul (k + 1) d0]) ?_
              refine lv_istore (lv' := [(5, .int (nI s0 - nI ((k + 1 + 1) * d0))), (4, .int (g1 13 0 + nI (k + 1))), (3, .int (nI ((6 * i0 + j0)))), (0, .ref (b 0))]) hx hb dX5_runsOut_85 hl (by decide) rfl (fun ls hl => ?_)
              refine lv_goto (tgt := 68) hx hb dX5_runsOut_87 (by decide) ?_
              exact ih68 (k + 1) _ hlt (by omega) (lv_sub hl [0, 1, 2, 3] rfl)
        exact LOOP68 _ 0 _ (by omega) (Nat.lt_succ_self _) (lv_sub hl [0, 1, 2, 3] rfl)
      · refine lv_iconst (v := (-1)) hx hb dX5_runsOut_45 (by decide) ?_
        have hpost : (fun r h => (okS n (nI i0) (nI j0) ∧ r = roF g (6 * cl (nI i0) + cl (nI j0)) ∧ yW D cA b (thG g 0) tt n np h) ∨ (¬ okS n (nI i0) (nI j0) ∧ yW D cA b (thG g 1) tt n np h)) ((-1)) H1 := by
          rw [cl_nI (n := i0) (by omega), cl_nI (n := j0) (by omega), ← hg1]
          refine Or.inl ⟨⟨i0, j0, hi0, hj0, rfl, rfl⟩, ?_, hX1⟩
          unfold roF
          rw [h5, h7]
          rw [if_pos (Or.inr (z_le (h71.symm.trans c42)))]
        refine W.widen (k := 0) (n := 0) (by omega) (by omega) ?_
        exact W.iret (v := ((-1))) hx hb hr (fun t ht _ => ⟨⟨((-1)), H1, rfl, hpost, ht⟩, hS.F ht⟩) hS.2.2 dX5_runsOut_46
  · refine lv_aload_n hx hb dX5_runsOut_14 rfl (lv_at hl 0 rfl) ?_
    refine lv_iconst (v := nI 1) hx hb dX5_runsOut_15 (by decide) ?_
    refine xci (va_runV (As := [.int (nI 1)]) (rest := []) ⟨hx, hb, hml, hown, hts⟩ (c_X5_fail l D cA e0 A H1 b g1 tt n np hX1 hA (nI 1)) ⟨(callB_of 1 hts gi_X5_fail rfl rfl rfl (hts _ q_ini_X5) (hts _ q_ml_X5_66) hd_X5_fail ⟨Nat.le_of_ble_eq_true rfl, Nat.le_of_ble_eq_true rfl⟩), hts _ q_im_X5_fail, hts _ q_sel_X5_X5_fail⟩ (xpV hE hS (hX1.main) rfl) rfl rfl hl.1 rfl (lv_room (Nat.le_of_ble_eq_true rfl)) dX5_runsOut_16 ⟨Nat.le_of_ble_eq_true rfl, Nat.le_of_ble_eq_true rfl⟩) hS (fun q h => h) (fun r_2 H2 locs hP9 hz9 hk9 hS => ?_)
    obtain ⟨hr9, hXf⟩ := hP9
    have hXf : yW D cA b (thG g 1) tt n np H2 := by rw [← thG_2 g 0 1, ← hg1]; exact hXf
    have hpost : (fun r h => (okS n v w ∧ r = roF g (6 * cl v + cl w) ∧ yW D cA b (thG g 0) tt n np h) ∨ (¬ okS n v w ∧ yW D cA b (thG g 1) tt n np h)) (r_2) H2 := by
      exact Or.inr ⟨fun z => (is_ok (by omega)).mpr z c11, hXf⟩
    refine W.widen (k := 0) (n := 0) (by omega) (by omega) ?_
    exact W.iret (v := r_2) hx hb hr (fun t ht _ => ⟨⟨r_2, H2, rfl, hpost, ht⟩, hS.F ht⟩) hS.2.2 dX5_runsOut_19
