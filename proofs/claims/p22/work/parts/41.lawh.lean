/-! The law's helpers: the script at hand, below, cell; what lies outside the class (by p41.py) -/
theorem va_X.lt {b L : Nat} {xs : Nat → Int32} {U : State} {H : Heap} (h : va_X b L xs U H) : b < H.size := by
  obtain ⟨scr, h1, -⟩ := h
  exact (Array.getElem?_eq_some_iff.mp h1).1
/-- as xPc, with the script at hand -/
abbrev xPs (D : va_G) (cA : Nat → ClassId) (e0 : Nat) (A : Nat → Prop) (H0 : Heap) (b L : Nat) (xs : Nat → Int32) (As : List Value) : Array Value → State → Prop := va_Pc As (fun U => U.heap = H0 ∧ xE D cA e0 A H0 U ∧ va_X b L xs U H0)
theorem xpSs {D : va_G} {cA : Nat → ClassId} {e0 : Nat} {A B : Nat → Prop} {s : State} {H : Heap} {locs : List Loc} {As : List Value} {b L : Nat} {xs : Nat → Int32} (hE : xE D cA e0 A s.heap s) (hXs : va_X b L xs s s.heap) (hbl : b < s.heap.size) (hbA : ¬ A b) (hS : va_S A s.heap H locs) (hB : ∀ q, B q → A q) : PreS s H (xPs D cA e0 B H b L xs As) As :=
  ⟨fun a U g mk q => ⟨q.1, q.2.1, q.2.2.1.warm (U := U.calling g mk a) (State.WarmedH.refl U), q.2.2.2.moved (U := U.calling g mk a) (State.WarmedH.refl U).alike⟩, fun U hU hW => ⟨rfl, hU, ((hE.kept hS.2.1).narrow hB).warm hW, (hXs.kept (hS.2.1 b hbl hbA)).moved hW.alike⟩⟩
theorem at_i {D : va_G} {a n : Nat} {c : ClassId} {f f' : Nat → Int32} {H : Heap} (h : ∀ j, j < n → f j = f' j) (hv : va_at D vwCl (a, .inl (c, n, .inl f)) H) : va_at D vwCl (a, .inl (c, n, .inl f')) H := by
  have h1 : H[a]? = some (arrV c n (fun j => .int (f j))) := hv
  show H[a]? = some (arrV c n (fun j => .int (f' j)))
  rw [h1, arrV_c (fun j hj => by rw [h j hj])]
theorem xW.out {D : va_G} {cA : Nat → ClassId} {ad : Nat → Nat → Nat} {g : Nat → Nat → Int32} {tt : Nat → Int64} {N : Nat → Nat} {H H1 : Heap} {A : Nat → Prop} {e0 o : Nat} {e : va_E} (h : xW D cA ad g tt N H) (hA : xA A e0 ad N) (ho : ¬ A o) (hU : xUp D o e H H1) : xW D cA ad g tt N H1 := h.keep fun c j hv => hU.2.2 _ (fun z => ho (z ▸ hA.a hv))
set_option maxHeartbeats 4000000 in
set_option maxRecDepth 100000 in
/-- below(v, n) -/
theorem c_L_below (l : Launch) (D : va_G) (cA : Nat → ClassId) (e0 : Nat) (A : Nat → Prop) (H0 : Heap) (v : Int32) (n : Nat) (h0 : 0 < n) (hn : n < 2 ^ 31) : Met l yL_below w_L_below ({ frames := 0, cells := 0, slots := 0, locals := 0 } : Room) (xPc D cA e0 A H0 [.int (v), .int (nI (n))]) (xR (some (.int (nI (belN v n))))) 0 0 (xNo) := by
  refine Met.ofW (cc := cL_below) (maxL := 2) (ret := (some .int)) (by decide) rfl ?_
  intro p e s m args below meth c s₁ B hml hv
  obtain ⟨rfl, hH, hE⟩ := hv
  subst hH
  have hx := B.exec
  have hb := B.bytes
  have hr := B.returns
  have hts := hE.1.all ([.int (v), .int (nI (n))] : List Value).toArray
  have hown : s.vm.findClass RL = some m.cls := findClass_of_methodNamed B.named
  have hlocks := B.notSynchronized
  have hK := hE.2.1
  have hS : va_S A s.heap s.heap [] := va_S.rf
  have hl := lv_entry ([.int (v), .int (nI (n))]) (n := 2) (Nat.le_of_ble_eq_true rfl)
  rw [lg_entry_eq]
  generalize (lg_sl ([.int (v), .int (nI (n))]) ++ List.replicate (2 - (lg_sl ([.int (v), .int (nI (n))])).length) Slot.unset).toArray = ls at hl ⊢
  have hl : lv_has ls 2 [(0, .int (v)), (1, .int (nI (n)))] := hl
  refine lv_iload_n hx hb dL_below_0 rfl (lv_at hl 0 rfl) ?_
  refine lv_ldc (v := nI 2147483647) hx hb hown (hts _ q_ko_L_7) dL_below_1 ?_
  refine lv_iand hx hb dL_below_3 ?_
  refine lv_iload_n hx hb dL_below_4 rfl (lv_at hl 1 rfl) ?_
  refine lv_irem hx hb dL_below_5 (nI_ne0 h0 hn) ?_
  refine xtop (show ((v &&& (nI 2147483647)) - (v &&& (nI 2147483647)) / (nI (n)) * (nI (n))) = nI (belN v n) from bel_eq v h0 hn) ?_
  exact W.iret (v := (nI (belN v n))) hx hb hr (fun t ht _ => ⟨rfl, ht⟩) (fun q hq => absurd hq List.not_mem_nil) dL_below_6
set_option maxHeartbeats 4000000 in
set_option maxRecDepth 100000 in
/-- cell(s, k) -/
theorem c_L_cell (l : Launch) (D : va_G) (cA : Nat → ClassId) (e0 : Nat) (A : Nat → Prop) (H0 : Heap) (b L : Nat) (xs : Nat → Int32) (k : Nat) (hbA : ¬ A b) (hLm : L < 2 ^ 31) (hk : k + 3 < 2 ^ 31) : Met l yL_cell w_L_cell ({ frames := 0, cells := 0, slots := 0, locals := 0 } : Room) (xPs D cA e0 A H0 b L xs [.ref (b), .int (nI (k))]) (xR (some (.int (cellF xs L k)))) 0 0 (xNo) := by
  refine Met.ofW (cc := cL_cell) (maxL := 2) (ret := (some .int)) (by decide) rfl ?_
  intro p e s m args below meth c s₁ B hml hv
  obtain ⟨rfl, hH, hE, hXs⟩ := hv
  subst hH
  have hx := B.exec
  have hb := B.bytes
  have hr := B.returns
  have hts := hE.1.all ([.ref (b), .int (nI (k))] : List Value).toArray
  have hown : s.vm.findClass RL = some m.cls := findClass_of_methodNamed B.named
  have hlocks := B.notSynchronized
  have hK := hE.2.1
  have hbl := va_X.lt hXs
  have hS : va_S A s.heap s.heap [] := va_S.rf
  have hl := lv_entry ([.ref (b), .int (nI (k))]) (n := 2) (Nat.le_of_ble_eq_true rfl)
  rw [lg_entry_eq]
  generalize (lg_sl ([.ref (b), .int (nI (k))]) ++ List.replicate (2 - (lg_sl ([.ref (b), .int (nI (k))])).length) Slot.unset).toArray = ls at hl ⊢
  have hl : lv_has ls 2 [(0, .ref (b)), (1, .int (nI (k)))] := hl
  refine lv_iload_n hx hb dL_cell_0 rfl (lv_at hl 1 rfl) ?_
  refine lv_aload_n hx hb dL_cell_1 rfl (lv_at hl 0 rfl) ?_
  refine va_slen hx hb hXs hbl hbA hS dL_cell_2 ?_
  refine lv_icmp_ge (tgt := 12) hx hb dL_cell_3 (by decide) (fun c3 => ?_) (fun c3 => ?_)
  · have c3 : L ≤ k := (nI_leI (a := L) (b := k) (by omega) (by omega)).mp c3
    refine lv_ldc (v := nI 790386105) hx hb hown (hts _ q_ko_L_8) dL_cell_12 ?_
    refine lv_iload_n hx hb dL_cell_14 rfl (lv_at hl 1 rfl) ?_
    refine lv_iconst (v := nI 3) hx hb dL_cell_15 (by decide) ?_
    refine lv_iadd hx hb dL_cell_16 ?_
    refine xtop (show ((nI (k)) + (nI 3)) = nI (k + 3) from nI_add k 3) ?_
    refine lv_imul hx hb dL_cell_17 ?_
    refine xtop (show ((nI 790386105) * (nI (k + 3))) = nI (790386105 * (k + 3)) from pk_mul 790386105 (k + 3)) ?_
    have hres : nI (790386105 * (k + 3)) = cellF xs L k := by
      unfold cellF
      rw [if_neg (by omega)]
    exact W.iret (v := (nI (790386105 * (k + 3)))) hx hb hr (fun t ht _ => ⟨congrArg (fun z : Int32 => Outcome.returned (some (Value.int z))) hres, ht⟩) (fun q hq => absurd hq List.not_mem_nil) dL_cell_18
  · have c3 : ¬ (L ≤ k) := fun z => c3 ((nI_leI (a := L) (b := k) (by omega) (by omega)).mpr z)
    refine lv_aload_n hx hb dL_cell_6 rfl (lv_at hl 0 rfl) ?_
    refine lv_iload_n hx hb dL_cell_7 rfl (lv_at hl 1 rfl) ?_
    refine va_sld hx hb hXs hbl hbA hS (i := nI (k)) (vp_in_nI (n := k) (by omega) (by omega)) dL_cell_8 ?_
    refine xtop (show (xs (nI (k)).toNatClampNeg) = xs k from by rw [nI_clamp (n := k) (by omega)]) ?_
    refine lv_goto (tgt := 18) hx hb dL_cell_9 (by decide) ?_
    have hres : xs k = cellF xs L k := by
      unfold cellF
      rw [if_pos (by omega)]
    exact W.iret (v := (xs k)) hx hb hr (fun t ht _ => ⟨congrArg (fun z : Int32 => Outcome.returned (some (Value.int z))) hres, ht⟩) (fun q hq => absurd hq List.not_mem_nil) dL_cell_18
