/-! The law's loop, its start (by p66.py) -/
set_option maxHeartbeats 4000000 in
set_option maxRecDepth 100000 in
/-- the law's loop: at its head, t calls made -/
theorem law_loop {p : Program} {l : Launch} {e : Env} {s : State} {m : MethodId} {below : List Frame} {meth : Method} {c : Code} {b L : Nat} {xs : Nat → Int32} {D : va_G} {cA : Nat → ClassId} {e0 x0 o : Nat} {bm : Nat → Nat} (C : lwC p l s m meth c b L xs D cA e0 o bm) : ∀ (n t i : Nat) (ad : Nat → Nat → Nat) (g : Nat → Nat → Int32) (tt : Nat → Int64) (N : Nat → Nat) (H : Heap) (locs : List Loc) (ls : Array Slot), i = 5 * t → i ≤ L → 513 ≤ t + n → LI D cA e0 s.heap.size x0 o bm ad g tt N H → va_S (lwA s) s.heap H locs → lv_has ls 9 [(4, .int (nI (i))), (3, .ref o), (2, .ref (bm 0)), (1, .ref x0), (0, .ref b)] → W p l e room_1 s m #[Value.ref b] below meth c H locs (24 + 9 * t) (4951 + 56 * t) (lw_Z below #[Value.ref b] s) (F0 m 23 ls []) := by
  intro n
  have C9 := C
  obtain ⟨hx, hb, hr, hml, hown, hE, hNc, hXs, hbl, hlocks, hLb, hbm, hinj, ho, hob, hl9⟩ := C9
  have hbA : ¬ lwA s b := Nat.not_le.mpr hbl
  induction n with
  | zero =>
    intro t i ad g tt N H locs ls h1 h2 h3
    exact absurd h3 (by omega)
  | succ n ih =>
    intro t i ad g tt N H locs ls h1 h2 h3 hLI hS hl
    refine lv_iload hx hb dL_law_23 (lv_at hl 0 rfl) ?_
    refine lv_aload_n hx hb dL_law_25 rfl (lv_at hl 4 rfl) ?_
    refine va_slen hx hb hXs hbl hbA hS dL_law_26 ?_
    refine lv_iconst (v := nI 5) hx hb dL_law_27 (by decide) ?_
    refine lv_isub hx hb dL_law_28 ?_
    refine lv_icmp_gt (tgt := 1191) hx hb dL_law_29 (by decide) (fun c29 => ?_) (fun c29 => ?_)
    · refine lv_iconst (v := 1) hx hb dL_law_1191 (by decide) ?_
      refine va_forget (fun q hq => hS.2.2 q hq) ?_
      refine W.widen (k := 601024) (n := 7293033) (by omega) (by omega) ?_
      exact W.base (lw_ret (Drawn.sameBut.refl s.drawn lw_cs) hx hb hr hlocks dL_law_1192)
    · have hi : i + 5 ≤ L := by
        have c30 : ¬ (nI L - nI 5) < nI i := c29
        rw [i_lt, pk_sub_toInt (by omega) (by omega), nI_toInt (by omega)] at c30
        omega
      have ht : t < 512 := by omega
      refine lv_aload_n hx hb dL_law_32 rfl (lv_at hl 4 rfl) ?_
      refine lv_iload hx hb dL_law_33 (lv_at hl 0 rfl) ?_
      refine va_sld hx hb hXs hbl hbA hS (i := nI i) (vp_in_nI (n := i) (by omega) (by omega)) dL_law_35 ?_
      refine lv_bipush (v := nI 31) hx hb dL_law_36 (by decide) ?_
      refine lv_iand hx hb dL_law_38 ?_
      obtain ⟨j, hj, he⟩ := pk_andE (xs (nI i).toNatClampNeg) (m := nI 31) 5 (by decide)
      refine xtop he ?_
      have K : lwK p l e s m below meth c b D cA e0 x0 o bm i t := by
        intro ad' g' tt' N' H' locs' ls' hLI' hS' hl'
        refine lv_iinc (v := nI (i + 5)) (lv' := [(4, .int (nI (i + 5))), (3, .ref o), (2, .ref (bm 0)), (1, .ref x0), (0, .ref b)]) hx hb dL_law_1185 hl' (k := 0) rfl (nI_add i 5) (by decide) rfl (fun ls hl => ?_)
        refine lv_goto (tgt := 23) hx hb dL_law_1188 (by decide) ?_
        exact ih (t + 1) (i + 5) ad' g' tt' N' H' locs' ls (by omega) hi (by omega) hLI' hS' hl
      by_cases hw0 : j = 0
      · subst hw0
        refine lv_tableIn (tgt := 128) (off := 89) hx hb dL_law_39 (by decide) (by decide) (by decide) (by decide) ?_
        exact law_c_0 C hi ht hLI hS hl K
      by_cases hw1 : j = 1
      · subst hw1
        refine lv_tableIn (tgt := 184) (off := 145) hx hb dL_law_39 (by decide) (by decide) (by decide) (by decide) ?_
        exact law_c_1 C hi ht hLI hS hl K
      by_cases hw2 : j = 2
      · subst hw2
        refine lv_tableIn (tgt := 264) (off := 225) hx hb dL_law_39 (by decide) (by decide) (by decide) (by decide) ?_
        exact law_c_2 C hi ht hLI hS hl K
      by_cases hw3 : j = 3
      · subst hw3
        refine lv_tableIn (tgt := 356) (off := 317) hx hb dL_law_39 (by decide) (by decide) (by decide) (by decide) ?_
        exact law_c_3 C hi ht hLI hS hl K
      by_cases hw4 : j = 4
      · subst hw4
        refine lv_tableIn (tgt := 448) (off := 409) hx hb dL_law_39 (by decide) (by decide) (by decide) (by decide) ?_
        exact law_c_4 C hi ht hLI hS hl K
      by_cases hw5 : j = 5
      · subst hw5
        refine lv_tableIn (tgt := 461) (off := 422) hx hb dL_law_39 (by decide) (by decide) (by decide) (by decide) ?_
        exact law_c_5 C hi ht hLI hS hl K
      by_cases hw6 : j = 6
      · subst hw6
        refine lv_tableIn (tgt := 541) (off := 502) hx hb dL_law_39 (by decide) (by decide) (by decide) (by decide) ?_
        exact law_c_6 C hi ht hLI hS hl K
      by_cases hw7 : j = 7
      · subst hw7
        refine lv_tableIn (tgt := 609) (off := 570) hx hb dL_law_39 (by decide) (by decide) (by decide) (by decide) ?_
        exact law_c_7 C hi ht hLI hS hl K
      by_cases hw8 : j = 8
      · subst hw8
        refine lv_tableIn (tgt := 677) (off := 638) hx hb dL_law_39 (by decide) (by decide) (by decide) (by decide) ?_
        exact law_c_8 C hi ht hLI hS hl K
      by_cases hw9 : j = 9
      · subst hw9
        refine lv_tableIn (tgt := 733) (off := 694) hx hb dL_law_39 (by decide) (by decide) (by decide) (by decide) ?_
        exact law_c_9 C hi ht hLI hS hl K
      by_cases hw10 : j = 10
      · subst hw10
        refine lv_tableIn (tgt := 746) (off := 707) hx hb dL_law_39 (by decide) (by decide) (by decide) (by decide) ?_
        exact law_c_10 C hi ht hLI hS hl K
      by_cases hw11 : j = 11
      · subst hw11
        refine lv_tableIn (tgt := 759) (off := 720) hx hb dL_law_39 (by decide) (by decide) (by decide) (by decide) ?_
        exact law_c_11 C hi ht hLI hS hl K
      by_cases hw12 : j = 12
      · subst hw12
        refine lv_tableIn (tgt := 815) (off := 776) hx hb dL_law_39 (by decide) (by decide) (by decide) (by decide) ?_
        exact law_c_12 C hi ht hLI hS hl K
      by_cases hw13 : j = 13
      · subst hw13
        refine lv_tableIn (tgt := 883) (off := 844) hx hb dL_law_39 (by decide) (by decide) (by decide) (by decide) ?_
        exact law_c_13 C hi ht hLI hS hl K
      by_cases hw14 : j = 14
      · subst hw14
        refine lv_tableIn (tgt := 939) (off := 900) hx hb dL_law_39 (by decide) (by decide) (by decide) (by decide) ?_
        exact law_c_14 C hi ht hLI hS hl K
      by_cases hw15 : j = 15
      · subst hw15
        refine lv_tableIn (tgt := 1007) (off := 968) hx hb dL_law_39 (by decide) (by decide) (by decide) (by decide) ?_
        exact law_c_15 C hi ht hLI hS hl K
      by_cases hw16 : j = 16
      · subst hw16
        refine lv_tableIn (tgt := 1075) (off := 1036) hx hb dL_law_39 (by decide) (by decide) (by decide) (by decide) ?_
        exact law_c_16 C hi ht hLI hS hl K
      by_cases hw17 : j = 17
      · subst hw17
        refine lv_tableIn (tgt := 1130) (off := 1091) hx hb dL_law_39 (by decide) (by decide) (by decide) (by decide) ?_
        exact law_c_17 C hi ht hLI hS hl K
      by_cases hw18 : j = 18
      · subst hw18
        refine lv_tableIn (tgt := 1171) (off := 1132) hx hb dL_law_39 (by decide) (by decide) (by decide) (by decide) ?_
        exact law_c_18 C hi ht hLI hS hl K
      refine lv_tableOut (tgt := 1185) hx hb dL_law_39 (Or.inr (by rw [nI_toInt (by omega)]; omega)) (by decide) ?_
      refine W.widen (k := 24 + 9 * (t + 1)) (n := 4951 + 56 * (t + 1)) (by omega) (by omega) ?_
      exact K _ _ _ _ _ _ _ hLI hS hl
/-- the class's cells at the start lie where they may -/
theorem xA_to {A A' : Nat → Prop} {e0 : Nat} {ad : Nat → Nat → Nat} {N : Nat → Nat} (h : xA A e0 ad N) (k : ∀ c j, xV N c j → A' (ad c j)) : xA A' e0 ad N := ⟨h.1, k, h.2.2⟩
theorem LI_0 {D : va_G} {cA : Nat → ClassId} {e0 h0 x0 o : Nat} {bm : Nat → Nat} {ad : Nat → Nat → Nat} {H : Heap} (hX : xW D cA ad g00 (fun _ => 0) n00 H) (hA : xA (cF h0 o bm) e0 ad n00) (hY : yW D cA bm g00 (fun _ => 0) 0 0 H) (hO : ∃ f, outW D cA o f H) (hx : ad 0 0 = x0) : LI D cA e0 h0 x0 o bm ad g00 (fun _ => 0) n00 H := by
  refine ⟨hX, hA, hY, fun k hk => absurd hk (Nat.not_lt_zero _), fun S hS => ?_, fun k => ⟨fun _ => ⟨rfl, rfl⟩, fun _ => ⟨rfl, rfl, rfl, rfl, rfl, rfl⟩⟩, Or.inl rfl, ⟨0, by omega, rfl⟩, fun k hk => absurd hk (Nat.not_lt_zero _), fun k hk => absurd hk (Nat.not_lt_zero _), hO, hx⟩
  have z : S = 0 := by
    have z1 : S < 2 ^ 0 := hS
    omega
  subst z
  intro m hm hb
  rw [Nat.zero_testBit] at hb
  exact absurd hb (by decide)
set_option maxRecDepth 100000 in
theorem xStr_ok : ∀ q ∈ xStr, Cond.stringRef RX4 q.1 q.2 ∈ lw_tbl := by decide +kernel
theorem lw_xWd {s : State} {A : Array Value} (h : ∀ w ∈ lw_tbl, w.before A s = true) : xWd s := by
  intro w hw
  have h1 := h w (List.mem_filter.mp hw).1
  have h2 : xWok w = true := (List.mem_filter.mp hw).2
  by_cases g : goodWord w = true
  · exact word_at (State.WarmedH.refl s) (good_of_word g) h1
  · have g' : goodWord w = false := by cases hg : goodWord w <;> first | rfl | exact absurd hg g
    unfold xWok at h2
    rw [g', Bool.false_or] at h2
    cases w <;> first | exact va_tabs rfl rfl h1 | (simp at h2)
/-- the arrays' classes -/
theorem lw_arrI {s : State} {A : Array Value} {ty : FieldType} (h : (Cond.arrayClass ty).before A s = true) (hk : ∀ c, s.vm.findClass ("[" ++ ty.toString) = some c → va_RA s c ty) : ∃ c, ArrOfT s c ty ∧ va_RA s c ty := by
  obtain ⟨c, k, comp, h1, h2, h3⟩ := Cond.arrayClass_spec h
  exact ⟨c, fun n z => ⟨fun k h => (by cases h), k, h2, comp, h3⟩, hk c h1⟩
theorem lw_arrO {s : State} {A : Array Value} {C : String} (h : (Cond.arrayOver (.object C)).before A s = true) : ∃ c, ArrOfT s c (.object C) ∧ va_RA s c (.object C) := by
  obtain ⟨comp, c, k, h1, -, h2, h3, h4⟩ := Cond.arrayOver_spec h
  exact ⟨c, fun n z => ⟨fun k h => (by cases h), k, h2, comp, h3⟩, k, comp, h2, h3, h1, h4⟩
set_option maxHeartbeats 4000000 in
set_option maxRecDepth 100000 in
/-- what every method is given, at the law's entry -/
theorem lw_given {s : State} {b : Nat} (hts0 : ∀ w ∈ lw_tbl, w.before #[Value.ref b] s = true) (hgv : (Jvm.Cond.and given_1 narrow_1).before #[Value.ref b] s = true) : ∃ (D : va_G) (cA : Nat → ClassId) (e0 : Nat), xE D cA e0 (lwA s) s.heap s ∧ xNc s := by
  have hwd : xWd s := lw_xWd hts0
  have hts := hwd.all #[Value.ref b]
  have hq := flat_of_before _ hgv
  have hout : ∀ a : Nat, a < s.heap.size → ¬ lwA s a := fun a h => Nat.not_le.mpr h
  obtain ⟨c0, iS0, hKn0⟩ := u_known (C := RJx4a65c) (T := TJx4a65c) (N := 3) (n := 3) hts qi_Jx4a65c (hts _ q_mk_Jx4a65c)
  obtain ⟨c1, iS1, hKn1⟩ := u_known (C := RX0) (T := TX0) (N := 4) (n := 4) hts qi_X0 (hts _ q_mk_X0)
  obtain ⟨c2, iS2, hKn2⟩ := u_known (C := RX1) (T := TX1) (N := 3) (n := 3) hts qi_X1 (hts _ q_mk_X1)
  obtain ⟨c3, iS3, hKn3⟩ := u_known (C := RX2) (T := TX2) (N := 2) (n := 2) hts qi_X2 (hts _ q_mk_X2)
  obtain ⟨c4, iS4, hKn4⟩ := u_known (C := RX3) (T := TX3) (N := 6) (n := 6) hts qi_X3 (hts _ q_mk_X3)
  obtain ⟨c5, iS5, hKn5⟩ := u_known (C := RX4) (T := TX4) (N := 11) (n := 11) hts qi_X4 (hts _ q_mk_X4)
  obtain ⟨c6, iS6, hKn6⟩ := u_known (C := RX5) (T := TX5) (N := 17) (n := 17) hts qi_X5 (hts _ q_mk_X5)
  obtain ⟨aI, hI1, hI2⟩ := lw_arrI (ty := .int) (hts _ q_ac_int) (fun c h => h)
  obtain ⟨aL, hL1, hL2⟩ := lw_arrI (ty := .long) (hts _ q_ac_long) (fun c h => h)
  have hover1 : (Cond.arrayOver (.object "java/lang/Object")).before #[Value.ref b] s = true := hts0 _ (List.mem_append_right _ (List.mem_of_getElem? (i := 375) (by decide +kernel)))
  have hover2 : (Cond.arrayOver (.object "VendingRounds$Slot")).before #[Value.ref b] s = true := hts0 _ (List.mem_append_right _ (List.mem_of_getElem? (i := 279) (by decide +kernel)))
  obtain ⟨aO, hO1, hO2⟩ := lw_arrO hover1
  obtain ⟨aS, hS1, hS2⟩ := lw_arrO hover2
  obtain ⟨D, hD⟩ : ∃ D : va_G, ∀ (k : Nat) (q : vw_C), vwCl[k]? = some q → u_Kn s q.1 q.2.1 q.2.2 (D.1 k) (D.2 k) := by
    refine ⟨(fun k => match k with | 0 => c0 | 1 => c1 | 2 => c2 | 3 => c3 | 4 => c4 | 5 => c5 | _ => c6, fun k => match k with | 0 => iS0 | 1 => iS1 | 2 => iS2 | 3 => iS3 | 4 => iS4 | 5 => iS5 | _ => iS6), ?_⟩
    intro k q hq
    match k, hq with
    | 0, hq => cases hq; exact hKn0
    | 1, hq => cases hq; exact hKn1
    | 2, hq => cases hq; exact hKn2
    | 3, hq => cases hq; exact hKn3
    | 4, hq => cases hq; exact hKn4
    | 5, hq => cases hq; exact hKn5
    | 6, hq => cases hq; exact hKn6
    | k + 7, hq => simp [vwCl] at hq
  have hK : va_K D vwCl (xTy (fun k => match k with | 0 => aI | 1 => aL | 2 => aO | _ => aS)) s := by
    refine ⟨hD, ?_⟩
    intro k q hq
    match k, hq with
    | 0, hq => cases hq; exact ⟨hI1, hI2⟩
    | 1, hq => cases hq; exact ⟨hL1, hL2⟩
    | 2, hq => cases hq; exact ⟨hO1, hO2⟩
    | 3, hq => cases hq; exact ⟨hS1, hS2⟩
    | k + 4, hq => simp [xTy] at hq
  have harr : (Cond.arrayOf (.static "java/util/ArrayList" "DEFAULTCAPACITY_EMPTY_ELEMENTDATA" "[Ljava/lang/Object;") (.object "java/lang/Object")).before #[Value.ref b] s = true := hq _ (by decide +kernel)
  have hlen : (Cond.eq (.length (.static "java/util/ArrayList" "DEFAULTCAPACITY_EMPTY_ELEMENTDATA" "[Ljava/lang/Object;")) (.int 0)).before #[Value.ref b] s = true := hq _ (by decide +kernel)
  have hu1 : (Cond.isRef (.static "java/lang/Throwable" "UNASSIGNED_STACK" "[Ljava/lang/StackTraceElement;")).before #[Value.ref b] s = true := hq _ (by decide +kernel)
  have hu2 : (Cond.isRef (.static "java/lang/Throwable" "SUPPRESSED_SENTINEL" "Ljava/util/List;")).before #[Value.ref b] s = true := hq _ (by decide +kernel)
  have hmi : (Cond.isRef (.mirror "[Ljava/lang/Object;")).before #[Value.ref b] s = true := hq _ (by decide +kernel)
  have hn1 : (Cond.not (.castable "java/lang/IllegalStateException" "java/lang/IllegalArgumentException")).before #[Value.ref b] s = true := hq _ (by decide +kernel)
  have hn2 : (Cond.not (.castable "java/lang/IllegalArgumentException" "java/lang/IndexOutOfBoundsException")).before #[Value.ref b] s = true := hq _ (by decide +kernel)
  have hn3 : (Cond.not (.castable "java/lang/IllegalStateException" "java/lang/IndexOutOfBoundsException")).before #[Value.ref b] s = true := hq _ (by decide +kernel)
  have hn4 : (Cond.not (.castable "java/lang/IndexOutOfBoundsException" "java/lang/IllegalArgumentException")).before #[Value.ref b] s = true := hq _ (by decide +kernel)
  have hla : (Cond.laysStatic "java/util/ArrayList" "DEFAULTCAPACITY_EMPTY_ELEMENTDATA" "[Ljava/lang/Object;").before #[Value.ref b] s = true := hts0 _ (List.mem_append_right _ (List.mem_of_getElem? (i := 44) (by decide +kernel)))
  have hlu1 : (Cond.laysStatic "java/lang/Throwable" "UNASSIGNED_STACK" "[Ljava/lang/StackTraceElement;").before #[Value.ref b] s = true := hts0 _ (List.mem_append_right _ (List.mem_of_getElem? (i := 216) (by decide +kernel)))
  have hlu2 : (Cond.laysStatic "java/lang/Throwable" "SUPPRESSED_SENTINEL" "Ljava/util/List;").before #[Value.ref b] s = true := hts0 _ (List.mem_append_right _ (List.mem_of_getElem? (i := 218) (by decide +kernel)))
  obtain ⟨e0, he0, hT0⟩ := va_Tof (tm := .static "java/util/ArrayList" "DEFAULTCAPACITY_EMPTY_ELEMENTDATA" "[Ljava/lang/Object;") (ty := .object "java/lang/Object") (N := 0) (f := fun _ => .null) (A := lwA s) (by omega) harr (Cond.eq_plain hlen (show (Term.int 0).eval #[Value.ref b] s none [] s = some (.int (Int32.ofNat 0)) from rfl) (Or.inl ⟨_, rfl⟩)) (fun j hj => absurd hj (Nat.not_lt_zero _)) hout
  refine ⟨D, fun k => match k with | 0 => aI | 1 => aL | 2 => aO | _ => aS, e0, ⟨hwd, hK, vx_Zqof hlu1 (hts _ q_ini_java_lang_Throwable) hu1 hout, vx_Zqof hlu2 (hts _ q_ini_java_lang_Throwable) hu2 hout, va_Zref hla (hts _ q_ini_Jx4a65c) he0 hout, hT0, va_AO.of hover1, va_AO.of hover2, va_Mi.of hmi, fun q hq => ?_⟩, va_Nc.of hn1, va_Nc.of hn2, va_Nc.of hn3, va_Nc.of hn4⟩
  have h1 := hts0 _ (xStr_ok q hq)
  obtain ⟨k, cf, i, a, -, -, -, -, -, h2⟩ := Cond.stringRef_spec hKn5.2.1 h1
  exact ⟨a, vk_R.of h1 h2⟩
