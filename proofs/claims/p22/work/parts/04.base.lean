/-! The general rows of this proof: the words of the tables, what every method is given (xE), a cell written (xUp), a cell made (xNw), calls that only read and calls that write. -/
def xWok (w : Cond) : Bool := goodWord w || (match w with
  | .methodLinkNest .. => true
  | .fieldLinkNest .. => true
  | .declares _ => true
  | .castable .. => true
  | _ => false)
def xTs : List Cond := lw_tbl.filter xWok
theorem xTs_of {w : Cond} (h : w ∈ lw_tbl) (k : xWok w = true) : w ∈ xTs := List.mem_filter.mpr ⟨h, k⟩
theorem xTs_t {w : Cond} (i : Nat) (h : tables_1[i]? = some w) (k : xWok w = true) : w ∈ xTs := xTs_of (List.mem_append_right _ (List.mem_of_getElem? h)) k
theorem xTs_s {w : Cond} (i : Nat) (h : (k2_sels lw_privs)[i]? = some w) (k : xWok w = true) : w ∈ xTs := xTs_of (List.mem_append_left _ (List.mem_of_getElem? h)) k
theorem xGood {w : Cond} (h : w ∈ xTs) (k : goodWord w = true) : w ∈ xTs ∧ ((w.onTables && w.keeps) = true ∨ ∃ ty, w = .arrayClass ty) := ⟨h, good_of_word k⟩
def xWd (U : State) : Prop := ∀ w ∈ xTs, w.before #[] U = true
theorem xWd.warm {s U : State} (hW : s.WarmedH U.vm) (h : xWd s) : xWd U := by
  intro w hw
  have h1 := h w hw
  have h2 : xWok w = true := (List.mem_filter.mp hw).2
  by_cases g : goodWord w = true
  · exact word_at hW (good_of_word g) h1
  · have g' : goodWord w = false := by cases hg : goodWord w <;> first | rfl | exact absurd hg g
    unfold xWok at h2
    rw [g', Bool.false_or] at h2
    cases w <;> first | exact va_Nw.warmM hW h1 | exact va_Nw.warmF hW h1 | exact va_Nw.warmD hW h1 | exact va_Nw.warmC hW h1 | (simp at h2)
theorem xWd.all {s : State} (h : xWd s) (args : Array Value) : ∀ w ∈ xTs, w.before args s = true := by
  intro w hw
  have h1 := h w hw
  have h2 : xWok w = true := (List.mem_filter.mp hw).2
  by_cases g : goodWord w = true
  · exact word_at (State.WarmedH.refl s) (good_of_word g) h1
  · have g' : goodWord w = false := by cases hg : goodWord w <;> first | rfl | exact absurd hg g
    unfold xWok at h2
    rw [g', Bool.false_or] at h2
    cases w <;> first | exact va_tabs rfl rfl h1 | (simp at h2)
/-- the array types of the worlds -/
def xTy (cA : Nat → ClassId) : List (ClassId × FieldType) := [(cA 0, .int), (cA 1, .int), (cA 2, .object "java/lang/Object"), (cA 3, .object "VendingRounds$Slot")]
def xStr : List (Nat × String) := [(43, "the limit is not 100 to 100000"), (54, "there are 8 machines"), (75, "there is no such machine"), (78, "a and b are the same"), (80, "minutes is not 1 to 200"), (94, "capacity is not 0 to 30"), (96, "demand is not 0 to 20"), (118, "day is less than today, or greater than 999"), (120, "price is not 1 to 1000"), (125, "20 changes are planned for later days"), (142, "what is not 0 to 4"), (145, "days is not 1 to 30"), (147, "it would be later than day 999"), (166, "there is no such place in the order"), (180, "limit is not 0 to 5000"), (207, "what is not 0 to 3"), (235, "product is not 0 to 5"), (237, "machines contains something that is no machine"), (239, "load is not 0 to 2000")]
/-- what every method is given of the machine: the words, the classes, the statics that nobody writes, the texts -/
def xE (D : va_G) (cA : Nat → ClassId) (e0 : Nat) (A : Nat → Prop) (H0 : Heap) (U : State) : Prop :=
  xWd U ∧ va_K D vwCl (xTy cA) U ∧ vx_Zq Bundle.tN "UNASSIGNED_STACK" Bundle.steD A U H0 ∧ vx_Zq Bundle.tN "SUPPRESSED_SENTINEL" Bundle.listD A U H0 ∧ va_Z "java/util/ArrayList" "DEFAULTCAPACITY_EMPTY_ELEMENTDATA" "[Ljava/lang/Object;" (.ref e0) A U H0 ∧ va_T (.object "java/lang/Object") e0 0 (fun _ => .null) A U H0 ∧ va_AO "java/lang/Object" U ∧ va_AO "VendingRounds$Slot" U ∧ (∃ mi, va_Mi "[Ljava/lang/Object;" mi U) ∧ ∀ q ∈ xStr, ∃ a, vk_R RX4 q.1 q.2 a U
theorem xE.warm {D : va_G} {cA : Nat → ClassId} {e0 : Nat} {A : Nat → Prop} {H0 : Heap} {s U : State} (hW : s.WarmedH U.vm) (h : xE D cA e0 A H0 s) : xE D cA e0 A H0 U := by
  obtain ⟨h1, h2, h3, h4, h5, h6, h7, h8, ⟨mi, h9⟩, h10⟩ := h
  exact ⟨h1.warm hW, va_K.moved hW.alike h2, vx_Zq.moved hW.alike h3, vx_Zq.moved hW.alike h4, va_Z.moved hW.alike h5, va_T.moved hW.alike h6, va_AO.moved hW.alike h7, va_AO.moved hW.alike h8, ⟨mi, va_Mi.moved hW.alike h9⟩, fun q hq => (h10 q hq).imp (fun _ h => vk_R.warm hW h)⟩
theorem xE.kept {D : va_G} {cA : Nat → ClassId} {e0 : Nat} {A : Nat → Prop} {H0 H : Heap} {s : State} (h : xE D cA e0 A H0 s) (hq : ∀ a : Nat, a < H0.size → ¬ A a → H[a]? = H0[a]?) : xE D cA e0 A H s := by
  obtain ⟨h1, h2, h3, h4, h5, h6, h7, h8, h9, h10⟩ := h
  exact ⟨h1, h2, vx_Zq.kept h3 hq, vx_Zq.kept h4 hq, va_Z.kept h5 hq, va_T.kept h6 hq, h7, h8, h9, h10⟩
theorem xE.narrow {D : va_G} {cA : Nat → ClassId} {e0 : Nat} {A B : Nat → Prop} {H0 : Heap} {s : State} (h : xE D cA e0 A H0 s) (hAB : ∀ q, B q → A q) : xE D cA e0 B H0 s := by
  obtain ⟨h1, h2, h3, h4, h5, h6, h7, h8, h9, h10⟩ := h
  exact ⟨h1, h2, vx_Zq.narrow h3 hAB, vx_Zq.narrow h4 hAB, va_Z.narrow h5 hAB, va_T.narrow h6 hAB, h7, h8, h9, h10⟩
/-- a method's start: its arguments, the heap, what it is given -/
abbrev xPc (D : va_G) (cA : Nat → ClassId) (e0 : Nat) (A : Nat → Prop) (H0 : Heap) (As : List Value) : Array Value → State → Prop := va_Pc As (fun U => U.heap = H0 ∧ xE D cA e0 A H0 U)
theorem xpS {D : va_G} {cA : Nat → ClassId} {e0 : Nat} {A : Nat → Prop} {s : State} {H : Heap} {locs : List Loc} {As : List Value} (hE : xE D cA e0 A s.heap s) (hS : va_S A s.heap H locs) : PreS s H (xPc D cA e0 A H As) As :=
  ⟨fun a U g mk q => ⟨q.1, q.2.1, q.2.2.warm (U := U.calling g mk a) (State.WarmedH.refl U)⟩, fun U hU hW => ⟨rfl, hU, (hE.kept hS.2.1).warm hW⟩⟩
theorem xpV {D : va_G} {cA : Nat → ClassId} {e0 : Nat} {A : Nat → Prop} {s : State} {H : Heap} {locs : List Loc} {As : List Value} {b ci : Nat} {fs : List Value} {q : vw_C} (hE : xE D cA e0 A s.heap s) (hS : va_S A s.heap H locs) (hb : va_at D vwCl (b, .inr (ci, fs)) H) (hc : vwCl[ci]? = some q) : PreV s H q.1 b (xPc D cA e0 A H (.ref b :: As)) As :=
  ⟨fun a U g mk q => ⟨q.1, q.2.1, q.2.2.warm (U := U.calling g mk a) (State.WarmedH.refl U)⟩, va_recv (ws := [(b, .inr (ci, fs))]) hE.2.1 (fun k x hx => by
    have hz : k < 1 := (List.getElem?_eq_some_iff.mp hx).1
    obtain rfl : k = 0 := by omega
    cases hx
    exact hb) hc (q0 := 0) rfl, fun U hU hW => ⟨rfl, hU, (hE.kept hS.2.1).warm hW⟩⟩
/-- one cell as a world -/
theorem xP1 {D : va_G} {H : Heap} {a : Nat} {e : va_E} (h : va_at D vwCl (a, e) H) : va_P D vwCl [(a, e)] H := fun k x hx => by
  have hz : k < 1 := (List.getElem?_eq_some_iff.mp hx).1
  obtain rfl : k = 0 := by omega
  cases hx
  exact h
/-- H1 is H but for the cell a, which now holds e -/
def xUp (D : va_G) (a : Nat) (e : va_E) (H H1 : Heap) : Prop := va_at D vwCl (a, e) H1 ∧ H1.size = H.size ∧ ∀ q, q ≠ a → H1[q]? = H[q]?
/-- H1 is H and one cell more, q, which holds e -/
def xNw (D : va_G) (q : Nat) (e : va_E) (H H1 : Heap) : Prop := va_at D vwCl (q, e) H1 ∧ q = H.size ∧ H1.size = H.size + 1 ∧ ∀ x, x < H.size → H1[x]? = H[x]?
section XB
variable {p : Program} {l : Launch} {e : Env} {R : Room} {s : State} {m : MethodId} {args : Array Value} {below : List Frame} {meth : Method} {c : Code} {H : Heap} {locs : List Loc} {cells slots : Nat} {Q : State → Prop}
variable {cc : ByteArray} {pc : Nat} {ls : Array Slot} {rest : List Value} {D : va_G} {A : Nat → Prop} {a : Nat} {tys : List (ClassId × FieldType)} {H0 : Heap}
theorem xtop {x y : Int32} (h : x = y) (k : W p l e R s m args below meth c H locs cells slots Q (F0 m pc ls (.int y :: rest))) : W p l e R s m args below meth c H locs cells slots Q (F0 m pc ls (.int x :: rest)) := h ▸ k
theorem xtopL {x y : Int64} (h : x = y) (k : W p l e R s m args below meth c H locs cells slots Q (F0 m pc ls (.long y :: rest))) : W p l e R s m args below meth c H locs cells slots Q (F0 m pc ls (.long x :: rest)) := h ▸ k
theorem xtopv {x y : Value} (h : x = y) (k : W p l e R s m args below meth c H locs cells slots Q (F0 m pc ls (y :: rest))) : W p l e R s m args below meth c H locs cells slots Q (F0 m pc ls (x :: rest)) := h ▸ k
theorem xput (hexec : p.tables.exec = Jvm.exec) (hb : c.code = cc) {own ref C : String} {T : u_T} {N ci index : Nat} {Ts : List Cond} (hts : ∀ w ∈ Ts, w.before args s = true) (hin : ∀ w ∈ u_ws C T N, w ∈ Ts) (ty0 : Nat → FieldType) (hty : ∀ k, k < N → parseFieldDescriptor (T k).2.2.1 = some (ty0 k)) (hnm : ∀ a, a < N → ∀ b, b < N → a ≠ b → (T a).2.1 ≠ (T b).2.1) (hown : s.vm.findClass own = some m.cls) (hK : va_K D vwCl tys s) (hS0 : va_S A H0 H locs) {fs : List Value} (he : va_at D vwCl (a, .inr (ci, fs)) H) (hAa : A a) (hc : vwCl[ci]? = some (C, T, N)) (k : Nat) (hk : k < N) (hlink : (Cond.fieldLink own index ref (T k).2.1 (T k).2.2.1).before args s = true) (hsame : ∀ x, s.fieldFound? (T k).1 (T k).2.1 (T k).2.2.1 = some x → s.fieldFound? ref (T k).2.1 (T k).2.2.1 = some x) (hfin : (T k).2.2.2 = false) {ty : FieldType} {v : Value} (hd : parseFieldDescriptor (T k).2.2.1 = some ty) (hn : narrow ty v = v) (hfit : fits ty v = true) (hl : k < fs.length)
    (hdg : decode cc pc = .ok (.putfield index, 3)) (kk : ∀ (H1 : Heap) (locs1 : List Loc), xUp D a (.inr (ci, fs.set k v)) H H1 → va_S A H0 H1 locs1 → W p l e R s m args below meth c H1 locs1 cells slots Q (F0 m (pc + 3) ls rest)) : W p l e R s m args below meth c H locs cells slots Q (F0 m pc ls (v :: .ref a :: rest)) := by
  have hap := va_apart (own := own) hts hin ty0 hty hnm hK hc
  obtain ⟨r, h1, cell, q1, q2, q3, q4⟩ := he
  obtain rfl : r = (C, T, N) := Option.some.inj (h1.symm.trans hc)
  obtain ⟨hS, hfc, kC, hkC, hkind⟩ := hK.1 ci _ hc
  obtain ⟨cf, kf, fi, f, hi, hsl⟩ := hS k hk
  have hlay := hts _ (hin _ (u_in_lay hk))
  unfold u_lay at hlay
  rw [if_neg (by rw [hfin]; decide)] at hlay
  have hst := (u_facts hfc hkC (u_lays hts hin hk) hi).1
  have h6 := u_store hfc hkC hkind hlay hi hd hn hfit
  refine W.putK hexec hb (f := f) ⟨hown, hlink, ⟨_, _, _, hsame _ hi⟩, hst⟩ (by rw [q2]; exact h6) q1 q3 (by rw [hsl]; exact k2_hasslot (q4 k hk)) rfl rfl hdg fun H' e1 e2 e3 => ?_
  rw [hsl] at e1 ⊢
  exact kk H' _ ⟨⟨_, hc, t_OB.to (V := updV (vp_V fs) k v) ⟨_, e1, q2, q3, t_set q4 hap hk v⟩ (fun j _ => vp_updV_set hl v j)⟩, e2, e3⟩ (hS0.put e2 e3 hAa)
theorem xputF (hexec : p.tables.exec = Jvm.exec) (hb : c.code = cc) {own ref C : String} {T : u_T} {N ci index : Nat} {Ts : List Cond} (hts : ∀ w ∈ Ts, w.before args s = true) (hin : ∀ w ∈ u_ws C T N, w ∈ Ts) (ty0 : Nat → FieldType) (hty : ∀ k, k < N → parseFieldDescriptor (T k).2.2.1 = some (ty0 k)) (hnm : ∀ a, a < N → ∀ b, b < N → a ≠ b → (T a).2.1 ≠ (T b).2.1) (hown : s.vm.findClass own = some m.cls) (hK : va_K D vwCl tys s) (hS0 : va_S A H0 H locs) {fs : List Value} (he : va_at D vwCl (a, .inr (ci, fs)) H) (hAa : A a) (hc : vwCl[ci]? = some (C, T, N)) (k : Nat) (hk : k < N) (hlink : (Cond.fieldLink own index ref (T k).2.1 (T k).2.2.1).before args s = true) (hsame : ∀ x, s.fieldFound? (T k).1 (T k).2.1 (T k).2.2.1 = some x → s.fieldFound? ref (T k).2.1 (T k).2.2.1 = some x) (hfin : (T k).2.2.2 = true) (hin2 : meth.name = "<init>") (hdecl : (T k).1 = own) {ty : FieldType} {v : Value} (hd : parseFieldDescriptor (T k).2.2.1 = some ty) (hn : narrow ty v = v) (hfit : fits ty v = true) (hl : k < fs.length)
    (hdg : decode cc pc = .ok (.putfield index, 3)) (kk : ∀ (H1 : Heap) (locs1 : List Loc), xUp D a (.inr (ci, fs.set k v)) H H1 → va_S A H0 H1 locs1 → W p l e R s m args below meth c H1 locs1 cells slots Q (F0 m (pc + 3) ls rest)) : W p l e R s m args below meth c H locs cells slots Q (F0 m pc ls (v :: .ref a :: rest)) := by
  have hap := va_apart (own := own) hts hin ty0 hty hnm hK hc
  obtain ⟨r, h1, cell, q1, q2, q3, q4⟩ := he
  obtain rfl : r = (C, T, N) := Option.some.inj (h1.symm.trans hc)
  obtain ⟨hS, hfc, kC, hkC, hkind⟩ := hK.1 ci _ hc
  obtain ⟨cf, kf, fi, f, hi, hsl⟩ := hS k hk
  have hlay := hts _ (hin _ (u_in_lay hk))
  unfold u_lay at hlay
  rw [if_pos hfin] at hlay
  have hst := (u_facts hfc hkC (u_lays hts hin hk) hi).1
  have hcf : m.cls = cf := by
    obtain ⟨_, _, c', _, _, _, -, -, hf', -, -, -, hown2, -⟩ := Cond.laysFinal_spec hlay
    have e1 : c' = cf := by have := hi.symm.trans hf'; simp at this; exact this.1.symm
    rw [hdecl] at hown2
    rw [← e1]; exact Option.some.inj (hown.symm.trans hown2)
  have h6 := u_fits hfc hkC hkind (Or.inr hlay) hi hd hn hfit
  refine W.putFinK hexec hb hown hlink (hsame _ hi) hst hcf hin2 (by rw [q2]; exact h6) q1 q3 (by rw [hsl]; exact k2_hasslot (q4 k hk)) rfl rfl hdg fun H' e1 e2 e3 => ?_
  rw [hsl] at e1 ⊢
  exact kk H' _ ⟨⟨_, hc, t_OB.to (V := updV (vp_V fs) k v) ⟨_, e1, q2, q3, t_set q4 hap hk v⟩ (fun j _ => vp_updV_set hl v j)⟩, e2, e3⟩ (hS0.put e2 e3 hAa)
theorem xiast (hexec : p.tables.exec = Jvm.exec) (hb : c.code = cc) (hK : va_K D vwCl tys s) (hS : va_S A H0 H locs) (t0 : Nat) {cA : ClassId} {n : Nat} {f : Nat → Int32} (ha : va_at D vwCl (a, .inl (cA, n, .inl f)) H) (hAa : A a) (ht : tys[t0]? = some (cA, .int)) {i : Int32} {x : Int32} (hin : vp_in i n) (hdg : decode cc pc = .ok (.iastore, 1))
    (kk : ∀ (H1 : Heap) (locs1 : List Loc), xUp D a (.inl (cA, n, .inl (upd f i.toNatClampNeg x))) H H1 → va_S A H0 H1 locs1 → W p l e R s m args below meth c H1 locs1 cells slots Q (F0 m (pc + 1) ls rest)) : W p l e R s m args below meth c H locs cells slots Q (F0 m pc ls (.int x :: .int i :: .ref a :: rest)) := by
  refine W.iast hexec hb ha ((hK.2 t0 _ ht).1 n (fun j => .int (f j))) (fun q => by cases q) (by show ¬ (i < 0 ∨ (arrV _ _ _).slots.size ≤ _); rw [arrV_size]; exact hin) rfl rfl hdg fun H1 e z oq => ?_
  refine kk H1 _ ⟨?_, z, oq⟩ (hS.put z oq hAa)
  show H1[a]? = some (vp_cell _ _)
  rw [e]
  rw [vp_cell_i, vp_cell_i, arrV_store]
  congr 2
  funext q
  by_cases hq : q = i.toNatClampNeg <;> simp [updV, upd, hq]
theorem xlast (hexec : p.tables.exec = Jvm.exec) (hb : c.code = cc) (hK : va_K D vwCl tys s) (hS : va_S A H0 H locs) (t0 : Nat) {cA : ClassId} {n : Nat} {f : Nat → Int64} (ha : va_at D vwCl (a, .inl (cA, n, .inr (.inl f))) H) (hAa : A a) (ht : tys[t0]? = some (cA, .long)) {i : Int32} {x : Int64} (hin : vp_in i n) (hdg : decode cc pc = .ok (.lastore, 1))
    (kk : ∀ (H1 : Heap) (locs1 : List Loc), xUp D a (.inl (cA, n, .inr (.inl (vp_updL f i.toNatClampNeg x)))) H H1 → va_S A H0 H1 locs1 → W p l e R s m args below meth c H1 locs1 cells slots Q (F0 m (pc + 1) ls rest)) : W p l e R s m args below meth c H locs cells slots Q (F0 m pc ls (.long x :: .int i :: .ref a :: rest)) := by
  refine W.last hexec hb ha ((hK.2 t0 _ ht).1 n (fun j => .long (f j))) (fun q => by cases q) (by show ¬ (i < 0 ∨ (arrV _ _ _).slots.size ≤ _); rw [arrV_size]; exact hin) rfl rfl hdg fun H1 e z oq => ?_
  refine kk H1 _ ⟨?_, z, oq⟩ (hS.put z oq hAa)
  show H1[a]? = some (vp_cell _ _)
  rw [e]
  rw [vp_cell_l, vp_cell_l, arrV_store]
  congr 2
  funext q
  by_cases hq : q = i.toNatClampNeg <;> simp [updV, vp_updL, hq]
theorem xnew {c0 : Code} (hexec : p.tables.exec = Jvm.exec) (hb : c0.code = cc) {own C : String} {T : u_T} {N ci index : Nat} {Ts : List Cond} (hts : ∀ w ∈ Ts, w.before args s = true) (hin : ∀ w ∈ u_ws C T N, w ∈ Ts) (ty : Nat → FieldType) (hty : ∀ k, k < N → parseFieldDescriptor (T k).2.2.1 = some (ty k)) (hown : s.vm.findClass own = some m.cls) (hcl : (Cond.classLink own index C).before args s = true) (hinst : (Cond.instantiable C N).before args s = true) (hini : (Cond.initialized C).before args s = true)
    (hK : va_K D vwCl tys s) (hS : va_S A H0 H locs) (hc : vwCl[ci]? = some (C, T, N)) {fs : List Value} (hfs : ∀ j, j < N → defaultValue (ty j) = vp_V fs j) (hcells : cells + 1 ≤ R.cells) (hslots : slots + N ≤ R.slots) (hdg : decode cc pc = .ok (.new index, 3))
    (kk : ∀ (q : Nat) (H1 : Heap), xNw D q (.inr (ci, fs)) H H1 → va_S A H0 H1 locs → W p l e R s m args below meth c0 H1 locs (cells + 1) (slots + N) Q (F0 m (pc + 3) ls (.ref q :: rest))) : W p l e R s m args below meth c0 H locs cells slots Q (F0 m pc ls rest) := by
  have hKn := hK.1 ci _ hc
  refine W.newcK hexec hb hown hcl hinst hini rfl hdg hcells hslots hKn.2.1 rfl fun H1 kC hkC e1 z1 o1 => ?_
  exact kk H.size H1 ⟨⟨_, hc, (u_born ty hts hin hKn hkC e1 hty).to hfs⟩, rfl, z1, o1⟩ ⟨Nat.le_trans hS.1 (by omega), fun x h1 h2 => (o1 x (Nat.lt_of_lt_of_le h1 hS.1)).trans (hS.2.1 x h1 h2), hS.2.2⟩
theorem xnewa (hexec : p.tables.exec = Jvm.exec) (hb : c.code = cc) {atype : ArrayType} (harr : (Cond.arrayClass (newarray.typeOf atype)).before args s = true) {ty : FieldType} (hty : newarray.typeOf atype = ty) (hra : ty = .int ∨ ty = .long) (hK : va_K D vwCl tys s) (hS : va_S A H0 H locs) (t0 : Nat) {cA : ClassId} (ht : tys[t0]? = some (cA, ty))
    {n : Int32} {N' : Nat} {a0 : vp_A} (ha : ∀ cA : ClassId, vp_cell cA a0 = arrV cA N' (fun _ => defaultValue ty)) (hn : ¬ n < 0) (hN : n.toNatClampNeg = N') (hbytes : N' * componentBytes ty ≤ 536870912) (hcells : cells + 1 ≤ R.cells) (hslots : slots + N' ≤ R.slots) (hdg : decode cc pc = .ok (.newarray atype, 2))
    (kk : ∀ (q : Nat) (H1 : Heap), xNw D q (.inl (cA, a0)) H H1 → va_S A H0 H1 locs → W p l e R s m args below meth c H1 locs (cells + 1) (slots + N') Q (F0 m (pc + 2) ls (.ref q :: rest))) : W p l e R s m args below meth c H locs cells slots Q (F0 m pc ls (.int n :: rest)) := by
  subst hty
  refine va_newaK hexec hb harr rfl hdg rfl hn hN hbytes hcells hslots rfl fun H1 cA' e1 z1 o1 hAr hNm => ?_
  have hcc : cA' = cA := by
    have h2 := (hK.2 t0 _ ht).2
    have h3 : s.vm.findClass ("[" ++ (newarray.typeOf atype).toString) = some cA := by
      generalize newarray.typeOf atype = tt at h2 hra
      rcases hra with rfl | rfl
      · exact h2
      · exact h2
    exact Option.some.inj (hNm.symm.trans h3)
  subst hcc
  refine kk H.size H1 ⟨?_, rfl, z1, o1⟩ ⟨Nat.le_trans hS.1 (by omega), fun x h1 h2 => (o1 x (Nat.lt_of_lt_of_le h1 hS.1)).trans (hS.2.1 x h1 h2), hS.2.2⟩
  show H1[H.size]? = some (vp_cell _ _)
  rw [ha]
  exact e1
theorem xnewq (hexec : p.tables.exec = Jvm.exec) (hb : c.code = cc) {own C : String} {index : Nat} (hown : s.vm.findClass own = some m.cls) (hclink : (Cond.classLink own index C).before args s = true) (hover : va_AO C s) (hK : va_K D vwCl tys s) (hS : va_S A H0 H locs) (t0 : Nat) {cA : ClassId} (ht : tys[t0]? = some (cA, .object C))
    {n : Int32} {N' : Nat} (hn : ¬ n < 0) (hN : n.toNatClampNeg = N') (hbytes : N' * 4 ≤ 536870912) (hcells : cells + 1 ≤ R.cells) (hslots : slots + N' ≤ R.slots) (hdg : decode cc pc = .ok (.anewarray index, 3))
    (kk : ∀ (q : Nat) (H1 : Heap), xNw D q (.inl (cA, N', .inr (.inr (.inr (.inr (fun _ => none)))))) H H1 → va_S A H0 H1 locs → W p l e R s m args below meth c H1 locs (cells + 1) (slots + N') Q (F0 m (pc + 3) ls (.ref q :: rest))) : W p l e R s m args below meth c H locs cells slots Q (F0 m pc ls (.int n :: rest)) := by
  subst hN
  refine W.anew hexec hb hown hclink (va_AO.use hover) rfl hdg rfl hn hbytes hcells hslots fun cA' kA comp f1 f2 f3 f4 => ?_
  have hcc : cA' = cA := Option.some.inj (f1.symm.trans (va_nmO (hK.2 t0 _ ht).2 rfl))
  subst hcc
  generalize hH1 : H.push ({ cls := cA', slots := Array.replicate n.toNatClampNeg .null, vm := .none } : Cell) = H1
  have z1 : H1.size = H.size + 1 := by rw [← hH1, Array.size_push]
  have e1 : H1[H.size]? = some (arrV cA' n.toNatClampNeg (fun _ => .null)) := by rw [← hH1, Array.getElem?_push_size, ← arrV_new]
  have o1 : ∀ q : Nat, q < H.size → H1[q]? = H[q]? := fun q hq => by rw [← hH1, Array.getElem?_push, if_neg (Nat.ne_of_lt hq)]
  exact kk H.size H1 ⟨e1, rfl, z1, o1⟩ ⟨Nat.le_trans hS.1 (by omega), fun x h1 h2 => (o1 x (Nat.lt_of_lt_of_le h1 hS.1)).trans (hS.2.1 x h1 h2), hS.2.2⟩
end XB
