/-! Constructors of machines, roads, the object itself (by p29.py) -/
theorem xasg {s : State} {C : String} {cC : ClassId} (h : ClassAt s C cC) : ∀ comp c0 : ClassId, s.vm.findClass C = some comp → s.vm.findClass C = some c0 → s.vm.assignable c0 comp = true := fun comp c0 h1 h2 => by
  cases h1.symm.trans h2
  cases h1.symm.trans h.1
  exact va_assign h
section XQ
variable {p : Program} {l : Launch} {e : Env} {R : Room} {s : State} {m : MethodId} {args : Array Value} {below : List Frame} {meth : Method} {c : Code} {H : Heap} {locs : List Loc} {cells slots : Nat} {Q : State → Prop}
variable {cc : ByteArray} {pc : Nat} {ls : Array Slot} {rest : List Value} {D : va_G} {A : Nat → Prop} {a : Nat} {tys : List (ClassId × FieldType)} {H0 : Heap}
/-- an element of an array of references is set: all other cells stand -/
theorem xastq (hexec : p.tables.exec = Jvm.exec) (hb : c.code = cc) (hK : va_K D vwCl tys s) (hS : va_S A H0 H locs) (t0 : Nat) {E C : String} {cA : ClassId} {n v : Nat} {f : Nat → Option Nat} (ha : va_at D vwCl (a, .inl (cA, n, .inr (.inr (.inr (.inr f))))) H) (hAa : A a) (ht : tys[t0]? = some (cA, .object E)) (hr : ∃ cellV : Cell, H[v]? = some cellV ∧ cellV.vm.isStatics = false ∧ s.vm.findClass C = some cellV.cls) (hasg : ∀ comp c0 : ClassId, s.vm.findClass E = some comp → s.vm.findClass C = some c0 → s.vm.assignable c0 comp = true) {i : Int32} (hin : vp_in i n) (hdg : decode cc pc = .ok (.aastore, 1))
    (kk : ∀ (H1 : Heap) (locs1 : List Loc), xUp D a (.inl (cA, n, .inr (.inr (.inr (.inr (va_up f i.toNatClampNeg (some v))))))) H H1 → va_S A H0 H1 locs1 → W p l e R s m args below meth c H1 locs1 cells slots Q (F0 m (pc + 1) ls rest)) : W p l e R s m args below meth c H locs cells slots Q (F0 m pc ls (.ref v :: .int i :: .ref a :: rest)) := by
  obtain ⟨cv, w1, w2, w3⟩ := hr
  obtain ⟨kx, comp, y1, y2, y3, -⟩ := (hK.2 t0 _ ht).2
  have y4 := (Vm.findClass_spec y3).imp fun _ z => z.1
  have w4 := (Vm.findClass_spec w3).imp fun _ z => z.1
  obtain ⟨ke, y5⟩ := y4
  obtain ⟨kc, w5⟩ := w4
  have hsz : ¬ i < 0 ∧ i.toNatClampNeg < (vp_cell cA (n, .inr (.inr (.inr (.inr f))))).slots.size := ⟨fun q => hin (Or.inl q), by show _ < (arrV _ _ _).slots.size; rw [arrV_size]; exact Nat.not_le.mp fun q => hin (Or.inr q)⟩
  refine W.aast hexec hb (show H[a]? = some (vp_cell cA (n, .inr (.inr (.inr (.inr f))))) from ha) (fun q h => by cases h) (fun h => by cases h) y1 y2 rfl y5 hsz w1 (fun q h => by rw [h] at w2; cases w2) w5 (hasg _ _ y3 w3) rfl rfl hdg fun H1 d1 d2 d3 => kk H1 _ ⟨?_, d2, d3⟩ (hS.put d2 d3 hAa)
  have d4 : (vp_cell cA (n, .inr (.inr (.inr (.inr f))))).setSlot i.toNatClampNeg (.ref v) = vp_cell cA (n, .inr (.inr (.inr (.inr (va_up f i.toNatClampNeg (some v)))))) := by
    rw [vp_cell_q, vp_cell_q, arrV_store]
    refine congrArg (arrV cA n) (funext fun q => ?_)
    by_cases hq : q = i.toNatClampNeg
    · rw [hq]; simp [updV, va_up, va_rf]
    · simp [updV, va_up, hq]
  exact d1.trans (congrArg some d4)
end XQ
/-- what a new machine is -/
def nwM (D : va_G) (cA : Nat → ClassId) (a0 : Nat) (lim : Int32) (h0 : Nat) (row : Nat) (sl : Nat → Nat) (h : Heap) : Prop :=
  va_at D vwCl (a0, .inr (1, [.int lim, .ref row, .int 0, .int 0])) h ∧ (∃ f, va_at D vwCl (row, .inl (cA 3, 6, .inr (.inr (.inr (.inr f))))) h ∧ ∀ i, i < 6 → f i = some (sl i)) ∧ (∀ i, i < 6 → h0 ≤ sl i ∧ sl i ≠ row ∧ va_at D vwCl (sl i, .inr (4, [.int 0, .int 0, .int (nI 100), .int 0, .int 0, .int 0])) h) ∧ (∀ i, i < 6 → ∀ i2, i2 < 6 → sl i = sl i2 → i = i2) ∧ h0 ≤ row
set_option maxHeartbeats 4000000 in
set_option maxRecDepth 100000 in
/-- Machine.<init>(lim) -/
theorem c_X0_init (l : Launch) (D : va_G) (cA : Nat → ClassId) (e0 : Nat) (A : Nat → Prop) (H0 : Heap) (a0 : Nat) (lim : Int32) (hL : va_at D vwCl (a0, .inr (1, [.int 0, .null, .int 0, .int 0])) H0) (hAa : A a0) (hAn : ∀ q, H0.size ≤ q → A q) : Met l yX0_init w_X0_init ({ frames := 2, cells := 7, slots := 42, locals := 60 } : Room) (xPc D cA e0 A H0 [.ref (a0), .int (lim)]) (xQv (fun h => ∃ row sl, nwM D cA a0 lim H0.size row sl h) A) 7 42 (A) := by
  refine Met.ofW (cc := cX0_init) (maxL := 3) (ret := none) (by decide) rfl ?_
  intro p e s m args below meth c s₁ B hml hv
  obtain ⟨rfl, hH, hE⟩ := hv
  subst hH
  have hx := B.exec
  have hb := B.bytes
  have hr := B.returns
  have hts := hE.1.all ([.ref (a0), .int (lim)] : List Value).toArray
  have hown : s.vm.findClass RX0 = some m.cls := findClass_of_methodNamed B.named
  have hlocks := B.notSynchronized
  have hin : meth.name = "<init>" := (name_of_methodNamed B.named B.method).1
  have hK := hE.2.1
  have hS : va_S A s.heap s.heap [] := va_S.rf
  have hl := lv_entry ([.ref (a0), .int (lim)]) (n := 3) (Nat.le_of_ble_eq_true rfl)
  rw [lg_entry_eq]
  generalize (lg_sl ([.ref (a0), .int (lim)]) ++ List.replicate (3 - (lg_sl ([.ref (a0), .int (lim)])).length) Slot.unset).toArray = ls at hl ⊢
  have hl : lv_has ls 3 [(0, .ref (a0)), (1, .int (lim))] := hl
  refine lv_aload_n hx hb dX0_init_0 rfl (lv_at hl 0 rfl) ?_
  refine W.objInit hx hb hown (hts _ q_ml_X0_3) (hts _ q_im_java_lang_Object__init_) (hts _ q_co_obj) rfl (by rw [hml]; exact hl.1) rfl dX0_init_1 (Nat.le_of_ble_eq_true rfl) (Nat.le_of_ble_eq_true rfl) ?_
  refine W.eq (g2 := F0 m 4 ls []) rfl ?_
  refine lv_aload_n hx hb dX0_init_4 rfl (lv_at hl 0 rfl) ?_
  refine lv_bipush (v := nI 6) hx hb dX0_init_5 (by decide) ?_
  refine xnewq (D := D) hx hb hown (hts _ q_cl_X0_9) hE.2.2.2.2.2.2.2.1 hK hS 3 rfl (nI_pos (by omega)) (nI_clamp (n := 6) (by omega)) (Nat.le_of_ble_eq_true rfl) (Nat.le_of_ble_eq_true rfl) (Nat.le_of_ble_eq_true rfl) dX0_init_7 (fun q1 H1 hN hS => ?_)
  obtain ⟨row, hrow⟩ : ∃ z, z = q1 := ⟨_, rfl⟩
  rw [← hrow] at hN ⊢
  have hq0 : s.heap.size ≤ row := by rw [hN.2.1]; exact Nat.le_refl _
  have hne : row ≠ a0 := by
    rw [hN.2.1]
    have := hL.lt
    omega
  have hL := hL.kept (hN.2.2.2 _ hL.lt)
  have hF := hN.1
  have hrl : row < H1.size := hF.lt
  refine xputF (D := D) (ci := 1) (v := .ref (row)) (C := RX0) (T := TX0) (N := 4) hx hb hts qi_X0 tyX0 tyX0_ok nmX0 hown hK hS hL hAa rfl 1 (by decide) (hts _ q_fl_X0_11) (fun _ h9 => h9) rfl hin rfl (tyX0_ok 1 (by decide)) rfl rfl (Nat.le_of_ble_eq_true rfl) dX0_init_10 (fun H2 locs hU hS => ?_)
  have hL := hU.1
  have hF := hF.kept (hU.2.2 _ hne)
  refine lv_aload_n hx hb dX0_init_13 rfl (lv_at hl 0 rfl) ?_
  refine lv_iload_n hx hb dX0_init_14 rfl (lv_at hl 1 rfl) ?_
  refine xputF (D := D) (ci := 1) (v := .int (lim)) (C := RX0) (T := TX0) (N := 4) hx hb hts qi_X0 tyX0 tyX0_ok nmX0 hown hK hS hL hAa rfl 0 (by decide) (hts _ q_fl_X0_17) (fun _ h9 => h9) rfl hin rfl (tyX0_ok 0 (by decide)) rfl rfl (Nat.le_of_ble_eq_true rfl) dX0_init_15 (fun H3 locs hU hS => ?_)
  have hL := hU.1
  have hF := hF.kept (hU.2.2 _ hne)
  refine lv_iconst (v := nI 0) hx hb dX0_init_18 (by decide) ?_
  refine lv_istore_n (lv' := [(2, .int (nI 0)), (0, .ref (a0)), (1, .int (lim))]) hx hb dX0_init_19 rfl hl (by decide) rfl (fun ls hl => ?_)
  have LOOP20 : ∀ (n20 : Nat) (j : Nat) (sl : Nat → Nat) (f : Nat → Option Nat) (H : Heap) (locs : List Loc) (ls : Array Slot), (j ≤ 6) → (va_at D vwCl (a0, .inr (1, [.int lim, .ref row, .int 0, .int 0])) H) → (va_at D vwCl (row, .inl (cA 3, 6, .inr (.inr (.inr (.inr f))))) H) → (∀ i, i < j → f i = some (sl i)) → (∀ i, i < j → s.heap.size ≤ sl i ∧ sl i ≠ row ∧ va_at D vwCl (sl i, .inr (4, [.int 0, .int 0, .int (nI 100), .int 0, .int 0, .int 0])) H) → (∀ i, i < j → ∀ i2, i2 < j → sl i = sl i2 → i = i2) → va_S A s.heap H locs → (6 - j) < n20 → lv_has ls 3 [(2, .int (nI (j))), (0, .ref (a0)), (1, .int (lim))] → W p l e (headSpec w_X0_init ({ frames := 2, cells := 7, slots := 42, locals := 60 } : Room)).room s m ([.ref (a0), .int (lim)] : List Value).toArray below meth c H locs (1 + j) (6 + 6 * j) (MQ below (xQv (fun h => ∃ row sl, nwM D cA a0 lim s.heap.size row sl h) A) ([.ref (a0), .int (lim)] : List Value).toArray s 7 42 (A)) (F0 m 20 ls []) := by
    intro n20
    induction n20 with
    | zero => intro j sl f H locs ls hj hL hF hf hsl hdi hS hmeas hl; exact absurd hmeas (Nat.not_lt_zero _)
    | succ n20 ih20 =>
      intro j sl f H locs ls hj hL hF hf hsl hdi hS hmeas hl
      refine lv_iload_n hx hb dX0_init_20 rfl (lv_at hl 0 rfl) ?_
      refine lv_bipush (v := nI 6) hx hb dX0_init_21 (by decide) ?_
      refine lv_icmp_ge (tgt := 45) hx hb dX0_init_23 (by decide) (fun c23 => ?_) (fun c23 => ?_)
      · have c23 : 6 ≤ j := (nI_leI (a := 6) (b := j) (by omega) (by omega)).mp c23
        have hj6 : j = 6 := by omega
        subst hj6
        have hpost : (fun h => ∃ row sl, nwM D cA a0 lim s.heap.size row sl h) H := by
          exact ⟨row, sl, hL, ⟨f, hF, hf⟩, hsl, hdi, hq0⟩
        refine W.widen (k := 7) (n := 42) (by omega) (by omega) ?_
        exact W.vret hx hb hr (fun t ht _ => ⟨⟨H, rfl, hpost, ht⟩, hS.F ht⟩) hS.2.2 dX0_init_45
      · have c23 : ¬ (6 ≤ j) := fun z => c23 ((nI_leI (a := 6) (b := j) (by omega) (by omega)).mpr z)
        have hS0 := hS
        refine lv_aload_n hx hb dX0_init_26 rfl (lv_at hl 1 rfl) ?_
        refine va_get (D := D) (ci := 1) (v := .ref (row)) (C := RX0) (T := TX0) (N := 4) hx hb hts qi_X0 hown hK (xP1 hL) 0 rfl rfl 1 (by decide) (hts _ q_fl_X0_11) (fun _ h9 => h9) rfl dX0_init_27 ?_
        refine lv_iload_n hx hb dX0_init_30 rfl (lv_at hl 0 rfl) ?_
        refine xnew (D := D) (ci := 4) (fs := [.int 0, .int 0, .int 0, .int 0, .int 0, .int 0]) (C := RX3) (T := TX3) (N := 6) hx hb hts qi_X3 tyX3 tyX3_ok hown (hts _ q_cl_X0_9) (hts _ q_mk_X3) (hts _ q_ini_X3) hK hS rfl (fun j hj => by rcases (show j = 0 ∨ j = 1 ∨ j = 2 ∨ j = 3 ∨ j = 4 ∨ j = 5 by omega) with rfl | rfl | rfl | rfl | rfl | rfl <;> rfl) (Nat.le_trans (show 1 + j + 1 ≤ 7 by omega) (Nat.le_of_ble_eq_true rfl)) (Nat.le_trans (show 6 + 6 * j + 6 ≤ 42 by omega) (Nat.le_of_ble_eq_true rfl)) dX0_init_31 (fun q4 H4 hN hS => ?_)
        have hqn : q4 = H.size := hN.2.1
        have hV := hN.1
        have hqr : q4 ≠ row := by
          have := hF.lt
          omega
        have hqa : q4 ≠ a0 := by
          have := hL.lt
          omega
        have hL := hL.kept (hN.2.2.2 _ hL.lt)
        have hF := hF.kept (hN.2.2.2 _ hF.lt)
        have hslK := fun i (h : i < j) => (hsl i h).2.2.kept (hN.2.2.2 _ (hsl i h).2.2.lt)
        have hsn : ∀ i, i < j → sl i ≠ q4 := fun i h z => by
          have := (hsl i h).2.2.lt
          omega
        have hq9 : s.heap.size ≤ q4 := by
          have := hS0.1
          omega
        refine lv_dup hx hb dX0_init_34 rfl ?_
        refine xcv (va_runIN (As := []) (rest := [.ref (q4), .int (nI (j)), .ref (row)]) ⟨hx, hb, hml, hown, hts⟩ (c_X3_init l D cA e0 (fun q => q = q4) H4 q4 hV rfl) ⟨(va_cnB 0 hts gi_X3_init rfl rfl rfl (hE.1 _ q_mn_X0_21) (hts _ q_ini_X3) hd_X3_init ⟨Nat.le_of_ble_eq_true rfl, Nat.le_of_ble_eq_true rfl⟩), rfl, hts _ q_im_X3_init⟩ (xpSn hE hS (fun q z => z ▸ hAn _ hq9)) rfl rfl hl.1 rfl (lv_room (Nat.le_of_ble_eq_true rfl)) dX0_init_35 ⟨Nat.le_trans (show 1 + j + 1 + 0 ≤ 7 by omega) (Nat.le_of_ble_eq_true rfl), Nat.le_trans (show 6 + 6 * j + 6 + 0 ≤ 42 by omega) (Nat.le_of_ble_eq_true rfl)⟩) hS (fun q z => z ▸ hAn _ hq9) (fun H5 locs hP9 hz9 hk9 hS => ?_)
        have hV := hP9
        have hL := hL.kept (hk9 _ hL.lt (fun z => hqa z.symm))
        have hF := hF.kept (hk9 _ hF.lt (fun z => hqr z.symm))
        have hslK := fun i (h : i < j) => (hslK i h).kept (hk9 _ (hslK i h).lt (hsn i h))
        refine xastq (D := D) hx hb hK hS 3 (E := RX3) (C := RX3) hF (hAn _ hq0) rfl (xcell (r := (RX3, TX3, 6)) hK rfl hV) (xasg (hK.1 4 _ rfl).2) (i := nI j) (vp_in_nI (n := j) (by omega) (by omega)) dX0_init_38 (fun H8 locs hU hS => ?_)
        rw [nI_clamp (n := j) (by omega)] at hU
        have hF := hU.1
        have hL := hL.kept (hU.2.2 _ (Ne.symm hne))
        have hV := hV.kept (hU.2.2 _ hqr)
        have hslK := fun i (h : i < j) => (hslK i h).kept (hU.2.2 _ (hsl i h).2.1)
        have hfN : ∀ i, i < j + 1 → va_up f j (some q4) i = some (va_up sl j q4 i) := fun i hi => by
          by_cases hij : i = j
          · rw [hij, up_eq, up_eq]
          · rw [up_ne hij, up_ne hij]
            exact hf i (by omega)
        have hslN : ∀ i, i < j + 1 → s.heap.size ≤ va_up sl j q4 i ∧ va_up sl j q4 i ≠ row ∧ va_at D vwCl (va_up sl j q4 i, .inr (4, [.int 0, .int 0, .int (nI 100), .int 0, .int 0, .int 0])) H8 := fun i hi => by
          by_cases hij : i = j
          · rw [hij, up_eq]
            exact ⟨hq9, hqr, hV⟩
          · rw [up_ne hij]
            exact ⟨(hsl i (by omega)).1, (hsl i (by omega)).2.1, hslK i (by omega)⟩
        have hdiN : ∀ i, i < j + 1 → ∀ i2, i2 < j + 1 → va_up sl j q4 i = va_up sl j q4 i2 → i = i2 := fun i hi i2 hi2 => by
          by_cases h1 : i = j
          · by_cases h2 : i2 = j
            · exact fun _ => h1.trans h2.symm
            · rw [h1, up_eq, up_ne h2]
              exact fun z => absurd z.symm (hsn i2 (by omega))
          · by_cases h2 : i2 = j
            · rw [h2, up_eq, up_ne h1]
              exact fun z => absurd z (hsn i (by omega))
            · rw [up_ne h1, up_ne h2]
              exact hdi i (by omega) i2 (by omega)
        refine lv_iinc (v := nI (j + 1)) (lv' := [(2, .int (nI (j + 1))), (0, .ref (a0)), (1, .int (lim))]) hx hb dX0_init_39 hl (k := 0) rfl (nI_add j 1) (by decide) rfl (fun ls hl => ?_)
        refine lv_goto (tgt := 20) hx hb dX0_init_42 (by decide) ?_
        refine W.widen (k := 1 + (j + 1)) (n := 6 + 6 * (j + 1)) (by omega) (by omega) ?_
        exact ih20 (j + 1) (va_up sl j (q4)) (va_up f j (some q4)) H8 locs _ (by omega) hL hF hfN hslN hdiN hS (by omega) (lv_sub hl [0, 1, 2] rfl)
  exact LOOP20 _ 0 (fun _ => 0) (fun _ => none) H3 locs _ (by omega) hL hF (fun i h => absurd h (Nat.not_lt_zero _)) (fun i h => absurd h (Nat.not_lt_zero _)) (fun i h => absurd h (Nat.not_lt_zero _)) hS (Nat.lt_succ_self _) (lv_sub hl [0, 1, 2] rfl)
