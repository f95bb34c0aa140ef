/-! The law's five times; what is given at the entry (by p47.py) -/
def cF (h0 w mm sl : Nat) : Nat → Prop := fun q => h0 ≤ q ∧ q ≠ w ∧ q ≠ mm ∧ q ≠ sl
set_option maxHeartbeats 4000000 in
set_option maxRecDepth 100000 in
/-- the law's loop: at its head, t times made -/
theorem law_loop {p : Program} {l : Launch} {e : Env} {s : State} {m : MethodId} {below : List Frame} {meth : Method} {c : Code} {b L : Nat} {xs : Nat → Int32} {D : va_G} {cA : Nat → ClassId} {e0 w : Nat} {Fc : Nat → Prop} (C : lwC p l s m meth c b L xs D cA e0 w Fc) {n : Nat} (hn : n ≤ 6) : ∀ (k t : Nat) (ad : Nat → Nat → Nat) (g : Nat → Nat → Int32) (tt : Nat → Int64) (N : Nat → Nat) (H : Heap) (locs : List Loc) (ls : Array Slot) (d : Nat), 6 ≤ t + k → t ≤ 5 → d ≤ 6 * t → t ≤ d → g 13 0 = nI d → pI D cA e0 Fc w ad g tt N H n → va_S (lwA s) s.heap H locs → lv_has ls 23 [(4, .int (nI (t))), (3, .int (nI (n))), (2, .ref (w)), (1, .ref (ad 0 0)), (0, .ref (b))] → W p l e room_1 s m #[Value.ref b] below meth c H locs (400 + 200 * t) (5400 + 1200 * t) (lw_Z below #[Value.ref b] s) (F0 m 41 ls []) := by
  intro k
  have C9 := C
  obtain ⟨hx, hb, hr, hml, hown, hE, hXs, hbl, hlocks, hLb, hl9, hFF, hwF⟩ := C9
  have hts := hE.1.all #[Value.ref b]
  induction k with
  | zero =>
    intro t ad g tt N H locs ls d h1 h2 h3 h4
    exact absurd h1 (by omega)
  | succ k ih =>
    intro t ad g tt N H locs ls d h1 h2 h3 h4 hday hI hS hl
    refine lv_iload hx hb dL_law_41 (lv_at hl 0 rfl) ?_
    refine lv_iconst (v := nI 5) hx hb dL_law_43 (by decide) ?_
    refine lv_icmp_ge (tgt := 577) hx hb dL_law_44 (by decide) (fun c44 => ?_) (fun c44 => ?_)
    · have c44 : 5 ≤ t := (nI_leI (a := 5) (b := t) (by omega) (by omega)).mp c44
      have hX := hI.1
      refine lv_aload_n hx hb dL_law_577 rfl (lv_at hl 3 rfl) ?_
      refine xcRi (va_runV (As := []) (rest := []) ⟨hx, hb, hml, hown, hts⟩ (c_X4_today l D cA e0 Fc H ad g tt N hX) ⟨(callB_of 0 hts gi_X4_today rfl rfl rfl (hts _ q_ini_X4) (hts _ q_ml_L_101) hd_X4_today ⟨Nat.le_of_ble_eq_true rfl, Nat.le_of_ble_eq_true rfl⟩), hts _ q_im_X4_today, hts _ q_sel_X4_X4_today⟩ (xpVn hE hS hFF (hX.main) rfl) rfl rfl hl.1 rfl (lv_room (Nat.le_of_ble_eq_true rfl)) dL_law_578 ⟨(show (400 + 200 * t) + 0 ≤ 626463 by omega), (show (5400 + 1200 * t) + 0 ≤ 7222236 by omega)⟩) ?_
      refine xtop (show g 13 0 = nI (d) from hday) ?_
      refine lv_iconst (v := nI 5) hx hb dL_law_581 (by decide) ?_
      refine lv_icmp_lt (tgt := 589) hx hb dL_law_582 (by decide) (fun hno => absurd hno ((nI_nlt (a := d) (b := 5) (by omega) (by omega)))) (fun _ => ?_)
      refine lv_iconst (v := 1) hx hb dL_law_585 (by decide) ?_
      refine lv_goto (tgt := 590) hx hb dL_law_586 (by decide) ?_
      refine va_forget (fun q hq => hS.2.2 q hq) ?_
      refine W.widen (k := 626463) (n := 7222236) (by omega) (by omega) ?_
      exact lw_ret hx hb hr hlocks dL_law_590
    · have c44 : ¬ 5 ≤ t := fun z => c44 ((nI_leI (a := 5) (b := t) (by omega) (by omega)).mpr z)
      refine law_iter C hI hn (t := t) (d := d) (by omega) h3 h4 hday (cs := 400 + 200 * t) (ss := 5400 + 1200 * t) (by omega) (by omega) hS hl (fun ad2 g2 tt2 N2 H2 locs ls d2 k1 k2 k3 k4 hS hl => ?_)
      refine lv_iinc (v := nI (t + 1)) (lv' := [(4, .int (nI (t + 1))), (3, .int (nI (n))), (2, .ref (w)), (1, .ref (ad2 0 0)), (0, .ref (b))]) hx hb dL_law_571 hl (k := 0) rfl (nI_add t 1) (by decide) rfl (fun ls hl => ?_)
      refine lv_goto (tgt := 41) hx hb dL_law_574 (by decide) ?_
      refine W.widen (k := 400 + 200 * (t + 1)) (n := 5400 + 1200 * (t + 1)) (by omega) (by omega) ?_
      exact ih (t + 1) ad2 g2 tt2 N2 H2 locs ls d2 (by omega) (by omega) k1 k2 k3 k4 hS hl
/-- the class's cells at the start lie where they may -/
theorem xA_to {A A' : Nat → Prop} {e0 : Nat} {ad : Nat → Nat → Nat} {N : Nat → Nat} (h : xA A e0 ad N) (k : ∀ c j, xV N c j → A' (ad c j)) : xA A' e0 ad N := ⟨h.1, k, h.2.2⟩
set_option maxRecDepth 100000 in
theorem xStr_ok : ∀ q ∈ xStr, Cond.stringRef RX4 q.1 q.2 ∈ lw_tbl := by decide +kernel
theorem lw_xWd {s : State} {A : Array Value} (h : ∀ w ∈ lw_tbl, w.before A s = true) : xWd s := by
  intro w hw
  have h1 := h w (List.mem_filter.mp hw).1
  have h2 : xWok w = true := (List.mem_filter.mp hw).2
  by_cases g : goodWord w = true
  · exact word_at (State.WarmedH.refl s) (good_of_word g) h1
  · have g' : goodWord w = false := by cases hg : goodWord w <;> first | rfl | exact absurd hg g
    unfold xWok at h2
    rw [g', Bool.false_or] at h2
    cases w <;> first | exact va_tabs rfl rfl h1 | (simp at h2)
/-- the arrays' classes -/
theorem lw_arrI {s : State} {A : Array Value} {ty : FieldType} (h : (Cond.arrayClass ty).before A s = true) (hk : ∀ c, s.vm.findClass ("[" ++ ty.toString) = some c → va_RA s c ty) : ∃ c, ArrOfT s c ty ∧ va_RA s c ty := by
  obtain ⟨c, k, comp, h1, h2, h3⟩ := Cond.arrayClass_spec h
  exact ⟨c, fun n z => ⟨fun k h => (by cases h), k, h2, comp, h3⟩, hk c h1⟩
theorem lw_arrO {s : State} {A : Array Value} {C : String} (h : (Cond.arrayOver (.object C)).before A s = true) : ∃ c, ArrOfT s c (.object C) ∧ va_RA s c (.object C) := by
  obtain ⟨comp, c, k, h1, -, h2, h3, h4⟩ := Cond.arrayOver_spec h
  exact ⟨c, fun n z => ⟨fun k h => (by cases h), k, h2, comp, h3⟩, k, comp, h2, h3, h1, h4⟩
set_option maxHeartbeats 4000000 in
set_option maxRecDepth 100000 in
/-- what every method is given, at the law's entry -/
theorem lw_given {s : State} {b : Nat} (hts0 : ∀ w ∈ lw_tbl, w.before #[Value.ref b] s = true) (hgv : (Jvm.Cond.and given_1 narrow_1).before #[Value.ref b] s = true) : ∃ (D : va_G) (cA : Nat → ClassId) (e0 : Nat), xE D cA e0 (lwA s) s.heap s := by
  have hwd : xWd s := lw_xWd hts0
  have hts := hwd.all #[Value.ref b]
  have hq := flat_of_before _ hgv
  have hout : ∀ a : Nat, a < s.heap.size → ¬ lwA s a := fun a h => Nat.not_le.mpr h
  obtain ⟨c0, iS0, hKn0⟩ := u_known (C := RJx4a65c) (T := TJx4a65c) (N := 3) (n := 3) hts qi_Jx4a65c (hts _ q_mk_Jx4a65c)
  obtain ⟨c1, iS1, hKn1⟩ := u_known (C := RX0) (T := TX0) (N := 4) (n := 4) hts qi_X0 (hts _ q_mk_X0)
  obtain ⟨c2, iS2, hKn2⟩ := u_known (C := RX1) (T := TX1) (N := 3) (n := 3) hts qi_X1 (hts _ q_mk_X1)
  obtain ⟨c3, iS3, hKn3⟩ := u_known (C := RX2) (T := TX2) (N := 2) (n := 2) hts qi_X2 (hts _ q_mk_X2)
  obtain ⟨c4, iS4, hKn4⟩ := u_known (C := RX3) (T := TX3) (N := 6) (n := 6) hts qi_X3 (hts _ q_mk_X3)
  obtain ⟨c5, iS5, hKn5⟩ := u_known (C := RX4) (T := TX4) (N := 11) (n := 11) hts qi_X4 (hts _ q_mk_X4)
  obtain ⟨aI, hI1, hI2⟩ := lw_arrI (ty := .int) (hts _ q_ac_int) (fun c h => h)
  have hover1 : (Cond.arrayOver (.object "java/lang/Object")).before #[Value.ref b] s = true := hts0 _ (List.mem_append_right _ (List.mem_of_getElem? (i := 506) (by decide +kernel)))
  have hover2 : (Cond.arrayOver (.object "VendingRounds$Slot")).before #[Value.ref b] s = true := hts0 _ (List.mem_append_right _ (List.mem_of_getElem? (i := 414) (by decide +kernel)))
  obtain ⟨aO, hO1, hO2⟩ := lw_arrO hover1
  obtain ⟨aS, hS1, hS2⟩ := lw_arrO hover2
  obtain ⟨D, hD⟩ : ∃ D : va_G, ∀ (k : Nat) (q : vw_C), vwCl[k]? = some q → u_Kn s q.1 q.2.1 q.2.2 (D.1 k) (D.2 k) := by
    refine ⟨(fun k => match k with | 0 => c0 | 1 => c1 | 2 => c2 | 3 => c3 | 4 => c4 | _ => c5, fun k => match k with | 0 => iS0 | 1 => iS1 | 2 => iS2 | 3 => iS3 | 4 => iS4 | _ => iS5), ?_⟩
    intro k q hq
    match k, hq with
    | 0, hq => cases hq; exact hKn0
    | 1, hq => cases hq; exact hKn1
    | 2, hq => cases hq; exact hKn2
    | 3, hq => cases hq; exact hKn3
    | 4, hq => cases hq; exact hKn4
    | 5, hq => cases hq; exact hKn5
    | k + 6, hq => simp [vwCl] at hq
  have hK : va_K D vwCl (xTy (fun k => match k with | 0 => aI | 1 => aI | 2 => aO | _ => aS)) s := by
    refine ⟨hD, ?_⟩
    intro k q hq
    match k, hq with
    | 0, hq => cases hq; exact ⟨hI1, hI2⟩
    | 1, hq => cases hq; exact ⟨hI1, hI2⟩
    | 2, hq => cases hq; exact ⟨hO1, hO2⟩
    | 3, hq => cases hq; exact ⟨hS1, hS2⟩
    | k + 4, hq => simp [xTy] at hq
  have harr : (Cond.arrayOf (.static "java/util/ArrayList" "DEFAULTCAPACITY_EMPTY_ELEMENTDATA" "[Ljava/lang/Object;") (.object "java/lang/Object")).before #[Value.ref b] s = true := hq _ (by decide +kernel)
  have hlen : (Cond.eq (.length (.static "java/util/ArrayList" "DEFAULTCAPACITY_EMPTY_ELEMENTDATA" "[Ljava/lang/Object;")) (.int 0)).before #[Value.ref b] s = true := hq _ (by decide +kernel)
  have hu1 : (Cond.isRef (.static "java/lang/Throwable" "UNASSIGNED_STACK" "[Ljava/lang/StackTraceElement;")).before #[Value.ref b] s = true := hq _ (by decide +kernel)
  have hu2 : (Cond.isRef (.static "java/lang/Throwable" "SUPPRESSED_SENTINEL" "Ljava/util/List;")).before #[Value.ref b] s = true := hq _ (by decide +kernel)
  have hmi : (Cond.isRef (.mirror "[Ljava/lang/Object;")).before #[Value.ref b] s = true := hq _ (by decide +kernel)
  have hla : (Cond.laysStatic "java/util/ArrayList" "DEFAULTCAPACITY_EMPTY_ELEMENTDATA" "[Ljava/lang/Object;").before #[Value.ref b] s = true := hts0 _ (List.mem_append_right _ (List.mem_of_getElem? (i := 43) (by decide +kernel)))
  have hlu1 : (Cond.laysStatic "java/lang/Throwable" "UNASSIGNED_STACK" "[Ljava/lang/StackTraceElement;").before #[Value.ref b] s = true := hts0 _ (List.mem_append_right _ (List.mem_of_getElem? (i := 150) (by decide +kernel)))
  have hlu2 : (Cond.laysStatic "java/lang/Throwable" "SUPPRESSED_SENTINEL" "Ljava/util/List;").before #[Value.ref b] s = true := hts0 _ (List.mem_append_right _ (List.mem_of_getElem? (i := 152) (by decide +kernel)))
  obtain ⟨e0, he0, hT0⟩ := va_Tof (tm := .static "java/util/ArrayList" "DEFAULTCAPACITY_EMPTY_ELEMENTDATA" "[Ljava/lang/Object;") (ty := .object "java/lang/Object") (N := 0) (f := fun _ => .null) (A := lwA s) (by omega) harr (Cond.eq_plain hlen (show (Term.int 0).eval #[Value.ref b] s none [] s = some (.int (Int32.ofNat 0)) from rfl) (Or.inl ⟨_, rfl⟩)) (fun j hj => absurd hj (Nat.not_lt_zero _)) hout
  refine ⟨D, fun k => match k with | 0 => aI | 1 => aI | 2 => aO | _ => aS, e0, hwd, hK, vx_Zqof hlu1 (hts _ q_ini_java_lang_Throwable) hu1 hout, vx_Zqof hlu2 (hts _ q_ini_java_lang_Throwable) hu2 hout, va_Zref hla (hts _ q_ini_Jx4a65c) he0 hout, hT0, va_AO.of hover1, va_AO.of hover2, va_Mi.of hmi, fun q hq => ?_⟩
  have h1 := hts0 _ (xStr_ok q hq)
  obtain ⟨k, cf, i, a, -, -, -, -, -, h2⟩ := Cond.stringRef_spec hKn5.2.1 h1
  exact ⟨a, vk_R.of h1 h2⟩
