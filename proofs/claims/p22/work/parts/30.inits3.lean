/-! Constructors of roads, the object itself (by p30.py) -/
theorem dv9 : ∀ i, i < 81 → nI i / nI 9 = nI (i / 9) := by decide +kernel
theorem rm9 : ∀ i, i < 81 → nI i - nI i / nI 9 * nI 9 = nI (i % 9) := by decide +kernel
def way0 (p : Nat) : Int32 := if p / 9 = p % 9 then nI 0 else nI 20
theorem way0_pm : ∀ p, p < 81 → way0 (xpm p) = way0 p := by decide +kernel
def nwR (D : va_G) (cA : Nat → ClassId) (a0 h0 mi hw : Nat) (h : Heap) : Prop := va_at D vwCl (a0, .inr (3, [.ref mi, .ref hw])) h ∧ (∃ f, va_at D vwCl (mi, .inl (cA 0, 81, .inl f)) h ∧ ∀ p, p < 81 → f p = way0 p) ∧ va_at D vwCl (hw, .inl (cA 0, 2048, .inl (fun _ => 0))) h ∧ mi ≠ hw ∧ h0 ≤ mi ∧ h0 ≤ hw
set_option maxHeartbeats 4000000 in
set_option maxRecDepth 100000 in
/-- Roads.<init>() -/
theorem c_X2_init (l : Launch) (D : va_G) (cA : Nat → ClassId) (e0 : Nat) (A : Nat → Prop) (H0 : Heap) (a0 : Nat) (hL : va_at D vwCl (a0, .inr (3, [.null, .null])) H0) (hAa : A a0) (hAn : ∀ q, H0.size ≤ q → A q) : Met l yX2_init w_X2_init ({ frames := 1, cells := 2, slots := 2129, locals := 40 } : Room) (xPc D cA e0 A H0 [.ref (a0)]) (xQv (fun h => ∃ mi hw, nwR D cA a0 H0.size mi hw h) A) 2 2129 (A) := by
  refine Met.ofW (cc := cX2_init) (maxL := 3) (ret := none) (by decide) rfl ?_
  intro p e s m args below meth c s₁ B hml hv
  obtain ⟨rfl, hH, hE⟩ := hv
  subst hH
  have hx := B.exec
  have hb := B.bytes
  have hr := B.returns
  have hts := hE.1.all ([.ref (a0)] : List Value).toArray
  have hown : s.vm.findClass RX2 = some m.cls := findClass_of_methodNamed B.named
  have hlocks := B.notSynchronized
  have hin : meth.name = "<init>" := (name_of_methodNamed B.named B.method).1
  have hK := hE.2.1
  have hS : va_S A s.heap s.heap [] := va_S.rf
  have hl := lv_entry ([.ref (a0)]) (n := 3) (Nat.le_of_ble_eq_true rfl)
  rw [lg_entry_eq]
  generalize (lg_sl ([.ref (a0)]) ++ List.replicate (3 - (lg_sl ([.ref (a0)])).length) Slot.unset).toArray = ls at hl ⊢
  have hl : lv_has ls 3 [(0, .ref (a0))] := hl
  refine lv_aload_n hx hb dX2_init_0 rfl (lv_at hl 0 rfl) ?_
  refine W.objInit hx hb hown (hts _ q_ml_X2_3) (hts _ q_im_java_lang_Object__init_) (hts _ q_co_obj) rfl (by rw [hml]; exact hl.1) rfl dX2_init_1 (Nat.le_of_ble_eq_true rfl) (Nat.le_of_ble_eq_true rfl) ?_
  refine W.eq (g2 := F0 m 4 ls []) rfl ?_
  refine lv_aload_n hx hb dX2_init_4 rfl (lv_at hl 0 rfl) ?_
  refine lv_bipush (v := nI 81) hx hb dX2_init_5 (by decide) ?_
  have hS0 := hS
  refine xnewa (D := D) (atype := .int) (a0 := (81, .inl (fun _ => 0))) hx hb (hts _ q_ac_int) rfl (Or.inl rfl) hK hS 0 rfl (fun _ => rfl) (nI_pos (by omega)) (nI_clamp (n := 81) (by omega)) (Nat.le_of_ble_eq_true rfl) (Nat.le_of_ble_eq_true rfl) (Nat.le_of_ble_eq_true rfl) dX2_init_7 (fun q1 H1 hN hS => ?_)
  obtain ⟨mi, hzmi⟩ : ∃ z, z = q1 := ⟨_, rfl⟩
  rw [← hzmi] at hN ⊢
  have hq0mi : s.heap.size ≤ mi := by
    have := hS0.1
    have := hN.2.1
    omega
  have hnmi : mi ≠ a0 := by
    rw [hN.2.1]
    have := hL.lt
    omega
  have hL := hL.kept (hN.2.2.2 _ hL.lt)
  have hAmi := hN.1
  refine xputF (D := D) (ci := 3) (v := .ref (mi)) (C := RX2) (T := TX2) (N := 2) hx hb hts qi_X2 tyX2 tyX2_ok nmX2 hown hK hS hL hAa rfl 0 (by decide) (hts _ q_fl_X2_11) (fun _ h9 => h9) rfl hin rfl (tyX2_ok 0 (by decide)) rfl rfl (Nat.le_of_ble_eq_true rfl) dX2_init_9 (fun H2 locs hU hS => ?_)
  have hL := hU.1
  have hAmi := hAmi.kept (hU.2.2 _ hnmi)
  refine lv_aload_n hx hb dX2_init_12 rfl (lv_at hl 0 rfl) ?_
  refine lv_sipush (v := nI 2048) hx hb dX2_init_13 (by decide) ?_
  have hS0 := hS
  refine xnewa (D := D) (atype := .int) (a0 := (2048, .inl (fun _ => 0))) hx hb (hts _ q_ac_int) rfl (Or.inl rfl) hK hS 0 rfl (fun _ => rfl) (nI_pos (by omega)) (nI_clamp (n := 2048) (by omega)) (Nat.le_of_ble_eq_true rfl) (Nat.le_of_ble_eq_true rfl) (Nat.le_of_ble_eq_true rfl) dX2_init_16 (fun q3 H3 hN hS => ?_)
  obtain ⟨hw, hzhw⟩ : ∃ z, z = q3 := ⟨_, rfl⟩
  rw [← hzhw] at hN ⊢
  have hq0hw : s.heap.size ≤ hw := by
    have := hS0.1
    have := hN.2.1
    omega
  have hnhw : hw ≠ a0 := by
    rw [hN.2.1]
    have := hL.lt
    omega
  have hL := hL.kept (hN.2.2.2 _ hL.lt)
  have hAhw := hN.1
  have hn2 : mi ≠ hw := by
    have h1 := hAmi.lt
    have := hN.2.1
    omega
  have hAmi := hAmi.kept (hN.2.2.2 _ hAmi.lt)
  refine xputF (D := D) (ci := 3) (v := .ref (hw)) (C := RX2) (T := TX2) (N := 2) hx hb hts qi_X2 tyX2 tyX2_ok nmX2 hown hK hS hL hAa rfl 1 (by decide) (hts _ q_fl_X2_15) (fun _ h9 => h9) rfl hin rfl (tyX2_ok 1 (by decide)) rfl rfl (Nat.le_of_ble_eq_true rfl) dX2_init_18 (fun H4 locs hU hS => ?_)
  have hL := hU.1
  have hAmi := hAmi.kept (hU.2.2 _ hnmi)
  have hAhw := hAhw.kept (hU.2.2 _ hnhw)
  have hq0 := hq0mi
  refine lv_iconst (v := nI 0) hx hb dX2_init_21 (by decide) ?_
  refine lv_istore_n (lv' := [(1, .int (nI 0)), (0, .ref (a0))]) hx hb dX2_init_22 rfl hl (by decide) rfl (fun ls hl => ?_)
  have LOOP23 : ∀ (n23 : Nat) (i : Nat) (f : Nat → Int32) (H : Heap) (locs : List Loc) (ls : Array Slot), (i ≤ 81) → (va_at D vwCl (a0, .inr (3, [.ref mi, .ref hw])) H) → (va_at D vwCl (mi, .inl (cA 0, 81, .inl f)) H) → (va_at D vwCl (hw, .inl (cA 0, 2048, .inl (fun _ => 0))) H) → (∀ p, p < i → f p = way0 p) → va_S A s.heap H locs → (81 - i) < n23 → lv_has ls 3 [(1, .int (nI (i))), (0, .ref (a0))] → W p l e (headSpec w_X2_init ({ frames := 1, cells := 2, slots := 2129, locals := 40 } : Room)).room s m ([.ref (a0)] : List Value).toArray below meth c H locs ((0 + 1) + 1) ((0 + 81) + 2048) (MQ below (xQv (fun h => ∃ mi hw, nwR D cA a0 s.heap.size mi hw h) A) ([.ref (a0)] : List Value).toArray s 2 2129 (A)) (F0 m 23 ls []) := by
    intro n23
    induction n23 with
    | zero => intro i f H locs ls hi hL hF hW hf hS hmeas hl; exact absurd hmeas (Nat.not_lt_zero _)
    | succ n23 ih23 =>
      intro i f H locs ls hi hL hF hW hf hS hmeas hl
      refine lv_iload_n hx hb dX2_init_23 rfl (lv_at hl 0 rfl) ?_
      refine lv_bipush (v := nI 81) hx hb dX2_init_24 (by decide) ?_
      refine lv_icmp_ge (tgt := 68) hx hb dX2_init_26 (by decide) (fun c26 => ?_) (fun c26 => ?_)
      · have c26 : 81 ≤ i := (nI_leI (a := 81) (b := i) (by omega) (by omega)).mp c26
        have hi9 : i = 81 := by omega
        subst hi9
        have hpost : (fun h => ∃ mi hw, nwR D cA a0 s.heap.size mi hw h) H := by
          exact ⟨mi, hw, hL, ⟨f, hF, hf⟩, hW, hn2, hq0mi, hq0hw⟩
        refine W.widen (k := 2) (n := 2129) (by omega) (by omega) ?_
        exact W.vret hx hb hr (fun t ht _ => ⟨⟨H, rfl, hpost, ht⟩, hS.F ht⟩) hS.2.2 dX2_init_68
      · have c26 : ¬ (81 ≤ i) := fun z => c26 ((nI_leI (a := 81) (b := i) (by omega) (by omega)).mpr z)
        refine lv_iload_n hx hb dX2_init_29 rfl (lv_at hl 0 rfl) ?_
        refine lv_bipush (v := nI 9) hx hb dX2_init_30 (by decide) ?_
        refine lv_idiv hx hb dX2_init_32 (by decide) ?_
        refine xtop (show ((nI (i)) / (nI 9)) = nI (i / 9) from dv9 i (by omega)) ?_
        refine lv_iload_n hx hb dX2_init_33 rfl (lv_at hl 0 rfl) ?_
        refine lv_bipush (v := nI 9) hx hb dX2_init_34 (by decide) ?_
        refine lv_irem hx hb dX2_init_36 (by decide) ?_
        refine xtop (show ((nI (i)) - (nI (i)) / (nI 9) * (nI 9)) = nI (i % 9) from rm9 i (by omega)) ?_
        refine lv_icmp_ne (tgt := 44) hx hb dX2_init_37 (by decide) (fun c37 => ?_) (fun c37 => ?_)
        · have c37 : ¬ ((i / 9) = (i % 9)) := fun z => c37 ((nI_eq (a := i / 9) (b := i % 9) (by omega) (by omega)).mpr z)
          refine lv_iconst (v := nI 0) hx hb dX2_init_44 (by decide) ?_
          refine lv_istore_n (lv' := [(2, .int (nI 0)), (1, .int (nI (i))), (0, .ref (a0))]) hx hb dX2_init_45 rfl hl (by decide) rfl (fun ls hl => ?_)
          refine lv_aload_n hx hb dX2_init_46 rfl (lv_at hl 2 rfl) ?_
          refine va_get (D := D) (ci := 3) (v := .ref (mi)) (C := RX2) (T := TX2) (N := 2) hx hb hts qi_X2 hown hK (xP1 hL) 0 rfl rfl 0 (by decide) (hts _ q_fl_X2_11) (fun _ h9 => h9) rfl dX2_init_47 ?_
          refine lv_iload_n hx hb dX2_init_50 rfl (lv_at hl 1 rfl) ?_
          refine lv_iload_n hx hb dX2_init_51 rfl (lv_at hl 0 rfl) ?_
          refine lv_if_eq (tgt := 59) hx hb dX2_init_52 (by decide) (fun _ => ?_) (fun hno => absurd (rfl) hno)
          refine lv_bipush (v := nI 20) hx hb dX2_init_59 (by decide) ?_
          refine xiast (D := D) hx hb hK hS 0 hF (hAn _ hq0) rfl (i := nI (i)) (x := nI 20) (vp_in_nI (n := i) (by omega) (by omega)) dX2_init_61 (fun H5 locs hU hS => ?_)
          rw [nI_clamp (n := i) (by omega)] at hU
          have hF := hU.1
          have hL := hL.kept (hU.2.2 _ (Ne.symm hnmi))
          have hW := hW.kept (hU.2.2 _ (Ne.symm hn2))
          refine lv_iinc (v := nI (i + 1)) (lv' := [(1, .int (nI (i + 1))), (2, .int (nI 0)), (0, .ref (a0))]) hx hb dX2_init_62 hl (k := 1) rfl (nI_add i 1) (by decide) rfl (fun ls hl => ?_)
          refine lv_goto (tgt := 23) hx hb dX2_init_65 (by decide) ?_
          exact ih23 (i + 1) (upd f i (nI 20)) H5 locs _ (by omega) hL hF hW (fun p hp => by
              by_cases hpi : p = i
              · rw [hpi, upd_eq]
                exact (if_neg c37).symm
              · rw [upd_ne hpi]
                exact hf p (by omega)) hS (by omega) (lv_sub hl [0, 2] rfl)
        · have c37 : (i / 9) = (i % 9) := (nI_eq (a := i / 9) (b := i % 9) (by omega) (by omega)).mp c37
          refine lv_iconst (v := nI 1) hx hb dX2_init_40 (by decide) ?_
          refine lv_goto (tgt := 45) hx hb dX2_init_41 (by decide) ?_
          refine lv_istore_n (lv' := [(2, .int (nI 1)), (1, .int (nI (i))), (0, .ref (a0))]) hx hb dX2_init_45 rfl hl (by decide) rfl (fun ls hl => ?_)
          refine lv_aload_n hx hb dX2_init_46 rfl (lv_at hl 2 rfl) ?_
          refine va_get (D := D) (ci := 3) (v := .ref (mi)) (C := RX2) (T := TX2) (N := 2) hx hb hts qi_X2 hown hK (xP1 hL) 0 rfl rfl 0 (by decide) (hts _ q_fl_X2_11) (fun _ h9 => h9) rfl dX2_init_47 ?_
          refine lv_iload_n hx hb dX2_init_50 rfl (lv_at hl 1 rfl) ?_
          refine lv_iload_n hx hb dX2_init_51 rfl (lv_at hl 0 rfl) ?_
          refine lv_if_eq (tgt := 59) hx hb dX2_init_52 (by decide) (fun hno => absurd hno ((by decide))) (fun _ => ?_)
          refine lv_iconst (v := nI 0) hx hb dX2_init_55 (by decide) ?_
          refine lv_goto (tgt := 61) hx hb dX2_init_56 (by decide) ?_
          refine xiast (D := D) hx hb hK hS 0 hF (hAn _ hq0) rfl (i := nI (i)) (x := nI 0) (vp_in_nI (n := i) (by omega) (by omega)) dX2_init_61 (fun H6 locs hU hS => ?_)
          rw [nI_clamp (n := i) (by omega)] at hU
          have hF := hU.1
          have hL := hL.kept (hU.2.2 _ (Ne.symm hnmi))
          have hW := hW.kept (hU.2.2 _ (Ne.symm hn2))
          refine lv_iinc (v := nI (i + 1)) (lv' := [(1, .int (nI (i + 1))), (2, .int (nI 1)), (0, .ref (a0))]) hx hb dX2_init_62 hl (k := 1) rfl (nI_add i 1) (by decide) rfl (fun ls hl => ?_)
          refine lv_goto (tgt := 23) hx hb dX2_init_65 (by decide) ?_
          exact ih23 (i + 1) (upd f i (nI 0)) H6 locs _ (by omega) hL hF hW (fun p hp => by
              by_cases hpi : p = i
              · rw [hpi, upd_eq]
                exact (if_pos c37).symm
              · rw [upd_ne hpi]
                exact hf p (by omega)) hS (by omega) (lv_sub hl [0, 2] rfl)
  exact LOOP23 _ 0 (fun _ => 0) H4 locs _ (by omega) hL hAmi hAhw (fun p h => absurd h (Nat.not_lt_zero _)) hS (Nat.lt_succ_self _) (lv_sub hl [0, 1] rfl)
