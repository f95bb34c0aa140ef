/-! Calls: of methods that only read (xR), of methods that write (xQi, xQl, xQv, xQr), of methods that may throw (xX); the throws of the class. -/
def xR (v : Option Value) : Array Value → State → Outcome → State → Prop := fun _ st oc t => oc = .returned v ∧ t.heap = st.heap
abbrev xQi (P : Int32 → Heap → Prop) (F : Nat → Prop) : Array Value → State → Outcome → State → Prop := va_Qi P (fun h t => t.heap = h) F
abbrev xQl (P : Int64 → Heap → Prop) (F : Nat → Prop) : Array Value → State → Outcome → State → Prop := va_Ql P (fun h t => t.heap = h) F
abbrev xQd (P : UInt64 → Heap → Prop) (F : Nat → Prop) : Array Value → State → Outcome → State → Prop := va_Qd P (fun h t => t.heap = h) F
abbrev xQv (P : Heap → Prop) (F : Nat → Prop) : Array Value → State → Outcome → State → Prop := va_Qv P (fun h t => t.heap = h) F
abbrev xQr (P : Nat → Heap → Prop) (F : Nat → Prop) : Array Value → State → Outcome → State → Prop := va_Qr (fun _ : Heap => True) (fun h a t => P a h ∧ t.heap = h) F
/-- which exceptions leave, with every old cell as it was -/
abbrev xX (PX : String → Prop) : String → State → State → Prop := vx_X (S := Unit) (fun _ => True) (fun E _ _ => PX E) (fun _ => False)
abbrev xNo : Nat → Prop := fun _ => False
section XC
variable {p : Program} {l : Launch} {e : Env} {R : Room} {s : State} {m : MethodId} {args : Array Value} {below : List Frame} {meth : Method} {c : Code} {H : Heap} {locs : List Loc} {cells slots : Nat} {Q : State → Prop}
variable {pc : Nat} {ls : Array Slot} {rest st0 : List Value} {a : Array Value} {A F : Nat → Prop} {mc ms : Nat}
theorem xcR {v : Option Value} (hr : va_Run p l e R s m args below meth c H locs cells slots 0 0 (F0 m pc ls st0) rest (xR v a) xNo) (k : W p l e R s m args below meth c H locs cells slots Q (F0 m (pc + 3) ls (v.toList ++ rest))) : W p l e R s m args below meth c H locs cells slots Q (F0 m pc ls st0) := by
  intro T hT X
  obtain ⟨v', st₀, t, T', L, h0, X', hL, e1, e2, ⟨hv, hh⟩, st⟩ := hr T hT X
  cases hv
  obtain ⟨t2, a1, b1⟩ := k T' (by rw [e1, hh, h0]) (Stand.forget X' (fun q h => (hL q h).elim))
  exact ⟨t2, st t2 a1, b1⟩
theorem xcRi {r : Int32} (hr : va_Run p l e R s m args below meth c H locs cells slots 0 0 (F0 m pc ls st0) rest (xR (some (.int r)) a) xNo) (k : W p l e R s m args below meth c H locs cells slots Q (F0 m (pc + 3) ls (.int r :: rest))) : W p l e R s m args below meth c H locs cells slots Q (F0 m pc ls st0) := xcR hr k
theorem xcRl {r : Int64} (hr : va_Run p l e R s m args below meth c H locs cells slots 0 0 (F0 m pc ls st0) rest (xR (some (.long r)) a) xNo) (k : W p l e R s m args below meth c H locs cells slots Q (F0 m (pc + 3) ls (.long r :: rest))) : W p l e R s m args below meth c H locs cells slots Q (F0 m pc ls st0) := xcR hr k
theorem xcRr {r : Nat} (hr : va_Run p l e R s m args below meth c H locs cells slots 0 0 (F0 m pc ls st0) rest (xR (some (.ref r)) a) xNo) (k : W p l e R s m args below meth c H locs cells slots Q (F0 m (pc + 3) ls (.ref r :: rest))) : W p l e R s m args below meth c H locs cells slots Q (F0 m pc ls st0) := xcR hr k
theorem xcRv (hr : va_Run p l e R s m args below meth c H locs cells slots 0 0 (F0 m pc ls st0) rest (xR none a) xNo) (k : W p l e R s m args below meth c H locs cells slots Q (F0 m (pc + 3) ls rest)) : W p l e R s m args below meth c H locs cells slots Q (F0 m pc ls st0) := xcR hr k
theorem xci {P : Int32 → Heap → Prop} (hr : va_Run p l e R s m args below meth c H locs cells slots mc ms (F0 m pc ls st0) rest (xQi P F a) F) (hS : va_S A s.heap H locs) (hF : ∀ q, F q → A q)
    (kk : ∀ (r : Int32) (H1 : Heap) (locs1 : List Loc), P r H1 → H.size ≤ H1.size → (∀ q : Nat, q < H.size → ¬ F q → H1[q]? = H[q]?) → va_S A s.heap H1 locs1 → W p l e R s m args below meth c H1 locs1 (cells + mc) (slots + ms) Q (F0 m (pc + 3) ls (.int r :: rest))) : W p l e R s m args below meth c H locs cells slots Q (F0 m pc ls st0) :=
  va_calli hr hS (fun q _ h => hF q h) hF (fun r u t H1 locs1 ht _ hp hb hz hk hS1 => kk r H1 locs1 (by subst ht; subst hb; exact hp) hz hk hS1)
theorem xcl {P : Int64 → Heap → Prop} (hr : va_Run p l e R s m args below meth c H locs cells slots mc ms (F0 m pc ls st0) rest (xQl P F a) F) (hS : va_S A s.heap H locs) (hF : ∀ q, F q → A q)
    (kk : ∀ (r : Int64) (H1 : Heap) (locs1 : List Loc), P r H1 → H.size ≤ H1.size → (∀ q : Nat, q < H.size → ¬ F q → H1[q]? = H[q]?) → va_S A s.heap H1 locs1 → W p l e R s m args below meth c H1 locs1 (cells + mc) (slots + ms) Q (F0 m (pc + 3) ls (.long r :: rest))) : W p l e R s m args below meth c H locs cells slots Q (F0 m pc ls st0) :=
  va_calll hr hS (fun q _ h => hF q h) hF (fun r u t H1 locs1 ht _ hp hb hz hk hS1 => kk r H1 locs1 (by subst ht; subst hb; exact hp) hz hk hS1)
theorem xcv {P : Heap → Prop} (hr : va_Run p l e R s m args below meth c H locs cells slots mc ms (F0 m pc ls st0) rest (xQv P F a) F) (hS : va_S A s.heap H locs) (hF : ∀ q, F q → A q)
    (kk : ∀ (H1 : Heap) (locs1 : List Loc), P H1 → H.size ≤ H1.size → (∀ q : Nat, q < H.size → ¬ F q → H1[q]? = H[q]?) → va_S A s.heap H1 locs1 → W p l e R s m args below meth c H1 locs1 (cells + mc) (slots + ms) Q (F0 m (pc + 3) ls rest)) : W p l e R s m args below meth c H locs cells slots Q (F0 m pc ls st0) :=
  va_callv hr hS (fun q _ h => hF q h) hF (fun u t H1 locs1 ht _ hp hb hz hk hS1 => kk H1 locs1 (by subst ht; subst hb; exact hp) hz hk hS1)
theorem xcr {P : Nat → Heap → Prop} (hr : va_Run p l e R s m args below meth c H locs cells slots mc ms (F0 m pc ls st0) rest (xQr P F a) F) (hS : va_S A s.heap H locs) (hF : ∀ q, F q → A q)
    (kk : ∀ (r : Nat) (H1 : Heap) (locs1 : List Loc), P r H1 → H.size ≤ H1.size → (∀ q : Nat, q < H.size → ¬ F q → H1[q]? = H[q]?) → va_S A s.heap H1 locs1 → W p l e R s m args below meth c H1 locs1 (cells + mc) (slots + ms) Q (F0 m (pc + 3) ls (.ref r :: rest))) : W p l e R s m args below meth c H locs cells slots Q (F0 m pc ls st0) :=
  va_callr hr hS (fun q _ h => hF q h) hF (fun u r t H1 locs1 ht _ _ hb hz hk hS1 => kk r H1 locs1 (by obtain ⟨h1, h2⟩ := hb; subst ht; subst h2; exact h1) hz hk hS1)
theorem xcXi {P : Int32 → Heap → Prop} {PX : String → Prop} (hr : vx_Run p l e R s m args below meth c H locs cells slots mc ms (F0 m pc ls st0) rest (xQi P F a) (xX PX) F) (hS : va_S A s.heap H locs) (hF : ∀ q, F q → A q)
    (kx : ∀ (E : String) (ce : Cell) (q9 : Addr) (H1 : Heap) (locs1 : List Loc), PX E → H.size ≤ H1.size → (∀ q : Nat, q < H.size → H1[q]? = H[q]?) → va_S A s.heap H1 locs1 → H1[q9]? = some ce → ce.vm = .none → s.vm.findClass E = some ce.cls → vx_W p l e R s m args below meth c H1 locs1 (cells + mc) (slots + ms) Q (F0 m pc ls rest) q9)
    (kk : ∀ (r : Int32) (H1 : Heap) (locs1 : List Loc), P r H1 → H.size ≤ H1.size → (∀ q : Nat, q < H.size → ¬ F q → H1[q]? = H[q]?) → va_S A s.heap H1 locs1 → W p l e R s m args below meth c H1 locs1 (cells + mc) (slots + ms) Q (F0 m (pc + 3) ls (.int r :: rest))) : W p l e R s m args below meth c H locs cells slots Q (F0 m pc ls st0) :=
  vx_calli hr hS (fun q _ h => hF q h) hF (fun q _ h => h.elim) (fun E ce q9 u t H1 locs1 ht _ _ hb hz hk hS1 h1 h2 h3 => kx E ce q9 H1 locs1 hb hz (fun q hq => hk q hq id) hS1 h1 h2 h3) (fun r u t H1 locs1 ht _ hp hb hz hk hS1 => kk r H1 locs1 (by subst ht; subst hb; exact hp) hz hk hS1)
theorem xcXl {P : Int64 → Heap → Prop} {PX : String → Prop} (hr : vx_Run p l e R s m args below meth c H locs cells slots mc ms (F0 m pc ls st0) rest (xQl P F a) (xX PX) F) (hS : va_S A s.heap H locs) (hF : ∀ q, F q → A q)
    (kx : ∀ (E : String) (ce : Cell) (q9 : Addr) (H1 : Heap) (locs1 : List Loc), PX E → H.size ≤ H1.size → (∀ q : Nat, q < H.size → H1[q]? = H[q]?) → va_S A s.heap H1 locs1 → H1[q9]? = some ce → ce.vm = .none → s.vm.findClass E = some ce.cls → vx_W p l e R s m args below meth c H1 locs1 (cells + mc) (slots + ms) Q (F0 m pc ls rest) q9)
    (kk : ∀ (r : Int64) (H1 : Heap) (locs1 : List Loc), P r H1 → H.size ≤ H1.size → (∀ q : Nat, q < H.size → ¬ F q → H1[q]? = H[q]?) → va_S A s.heap H1 locs1 → W p l e R s m args below meth c H1 locs1 (cells + mc) (slots + ms) Q (F0 m (pc + 3) ls (.long r :: rest))) : W p l e R s m args below meth c H locs cells slots Q (F0 m pc ls st0) :=
  vx_calll hr hS (fun q _ h => hF q h) hF (fun q _ h => h.elim) (fun E ce q9 u t H1 locs1 ht _ _ hb hz hk hS1 h1 h2 h3 => kx E ce q9 H1 locs1 hb hz (fun q hq => hk q hq id) hS1 h1 h2 h3) (fun r u t H1 locs1 ht _ hp hb hz hk hS1 => kk r H1 locs1 (by subst ht; subst hb; exact hp) hz hk hS1)
theorem xcXv {P : Heap → Prop} {PX : String → Prop} (hr : vx_Run p l e R s m args below meth c H locs cells slots mc ms (F0 m pc ls st0) rest (xQv P F a) (xX PX) F) (hS : va_S A s.heap H locs) (hF : ∀ q, F q → A q)
    (kx : ∀ (E : String) (ce : Cell) (q9 : Addr) (H1 : Heap) (locs1 : List Loc), PX E → H.size ≤ H1.size → (∀ q : Nat, q < H.size → H1[q]? = H[q]?) → va_S A s.heap H1 locs1 → H1[q9]? = some ce → ce.vm = .none → s.vm.findClass E = some ce.cls → vx_W p l e R s m args below meth c H1 locs1 (cells + mc) (slots + ms) Q (F0 m pc ls rest) q9)
    (kk : ∀ (H1 : Heap) (locs1 : List Loc), P H1 → H.size ≤ H1.size → (∀ q : Nat, q < H.size → ¬ F q → H1[q]? = H[q]?) → va_S A s.heap H1 locs1 → W p l e R s m args below meth c H1 locs1 (cells + mc) (slots + ms) Q (F0 m (pc + 3) ls rest)) : W p l e R s m args below meth c H locs cells slots Q (F0 m pc ls st0) :=
  vx_callv hr hS (fun q _ h => hF q h) hF (fun q _ h => h.elim) (fun E ce q9 u t H1 locs1 ht _ _ hb hz hk hS1 h1 h2 h3 => kx E ce q9 H1 locs1 hb hz (fun q hq => hk q hq id) hS1 h1 h2 h3) (fun u t H1 locs1 ht _ hp hb hz hk hS1 => kk H1 locs1 (by subst ht; subst hb; exact hp) hz hk hS1)
theorem xcXr {P : Nat → Heap → Prop} {PX : String → Prop} (hr : vx_Run p l e R s m args below meth c H locs cells slots mc ms (F0 m pc ls st0) rest (xQr P F a) (xX PX) F) (hS : va_S A s.heap H locs) (hF' : ∀ q, F q → A q)
    (kx : ∀ (E : String) (ce : Cell) (q9 : Addr) (H1 : Heap) (locs1 : List Loc), PX E → H.size ≤ H1.size → (∀ q : Nat, q < H.size → H1[q]? = H[q]?) → va_S A s.heap H1 locs1 → H1[q9]? = some ce → ce.vm = .none → s.vm.findClass E = some ce.cls → vx_W p l e R s m args below meth c H1 locs1 (cells + mc) (slots + ms) Q (F0 m pc ls rest) q9)
    (kk : ∀ (r : Nat) (H1 : Heap) (locs1 : List Loc), P r H1 → H.size ≤ H1.size → (∀ q : Nat, q < H.size → ¬ F q → H1[q]? = H[q]?) → va_S A s.heap H1 locs1 → W p l e R s m args below meth c H1 locs1 (cells + mc) (slots + ms) Q (F0 m (pc + 3) ls (.ref r :: rest))) : W p l e R s m args below meth c H locs cells slots Q (F0 m pc ls st0) := by
  intro T hT X
  rcases hr T hT X with ⟨v, st₀, t, T', L, h0, X', hL, e1, e2, ⟨⟨u, r, hv, -, hp, hb⟩, hF⟩, st⟩ | ⟨q, st₀, t, T', L, E, ce, h0, X', hL, e1, e2, ⟨u, -, hb, hF⟩, hce, hcv, hcl, st⟩
  · cases hv
    obtain ⟨k1, k2, k3⟩ := vx_keep h0 e1 hS (fun q _ h => hF' q h) hF' hL hF
    obtain ⟨t2, a1, b1⟩ := kk r T'.heap (locs ++ L) (by rw [e1, hb]; exact hp) k1 k2 k3 T' rfl X'
    exact ⟨t2, st t2 a1, b1⟩
  · obtain ⟨k1, k2, k3⟩ := vx_keep h0 e1 hS (fun q _ h => h.elim) hF' hL hF
    obtain ⟨t2, a1, b1⟩ := kx E ce q T'.heap (locs ++ L) hb k1 (fun q hq => k2 q hq id) k3 (by rw [e1]; exact hce) hcv hcl T' rfl X'
    exact ⟨t2, st.trans a1, b1⟩
end XC
abbrev xIAE : String := "java/lang/IllegalArgumentException"
abbrev xISE : String := "java/lang/IllegalStateException"
abbrev xIOB : String := "java/lang/IndexOutOfBoundsException"
abbrev xSup : List String := ["java/lang/RuntimeException", "java/lang/Exception"]
theorem xth_IAE : ∀ w ∈ vx_atS RX4 45 xIAE xSup, w ∈ xTs := fun w h => (show ∀ w ∈ vx_atS RX4 45 xIAE xSup, w ∈ lw_tbl ∧ xWok w = true by decide +kernel) w h |>.elim xTs_of
theorem xth_ISE : ∀ w ∈ vx_atS RX4 56 xISE xSup, w ∈ xTs := fun w h => (show ∀ w ∈ vx_atS RX4 56 xISE xSup, w ∈ lw_tbl ∧ xWok w = true by decide +kernel) w h |>.elim xTs_of
theorem xth_IOB : ∀ w ∈ vx_atS RX4 77 xIOB xSup, w ∈ xTs := fun w h => (show ∀ w ∈ vx_atS RX4 77 xIOB xSup, w ∈ lw_tbl ∧ xWok w = true by decide +kernel) w h |>.elim xTs_of
section XT
variable {p : Program} {l : Launch} {e : Env} {R : Room} {s : State} {m : MethodId} {args : Array Value} {below : List Frame} {meth : Method} {c : Code} {locs : List Loc} {cells slots mc ms : Nat} {cc : ByteArray} {pc : Nat} {ls : Array Slot} {rest : List Value} {D : va_G} {cA : Nat → ClassId} {e0 : Nat} {A : Nat → Prop} {Qc : Array Value → State → Outcome → State → Prop} {PX : String → Prop}
theorem xthrow (hexec : p.tables.exec = Jvm.exec) (hb : c.code = cc) (hl : l.stackTraces = false) (hE : xE D cA e0 A s.heap s) (hS : va_S A s.heap s.heap locs) (hown : s.vm.findClass RX4 = some m.cls) {cls text : String} {ik is ic : Nat}
    (hcls : Bundle.fit cls = true) (hk : Cond.classLink RX4 ik cls ∈ xTs) (hini : Cond.initialized cls ∈ xTs) (hat : ∀ w ∈ vx_atS RX4 ic cls xSup, w ∈ xTs) (hgood : ∀ w ∈ Cond.classLink RX4 ik cls :: Cond.initialized cls :: vx_atS RX4 ic cls xSup, vx_ot w = true)
    (hstr : (is, text) ∈ xStr) (hsize : ls.size = c.maxLocals)
    (d0 : decode cc pc = .ok (.new ik, 3)) (d3 : decode cc (pc + 3) = .ok (.dup, 1)) (d4 : decode cc (pc + 4) = .ok (.ldc is, 2)) (d6 : decode cc (pc + 6) = .ok (.invokespecial ic, 3)) (d9 : decode cc (pc + 9) = .ok (.athrow, 1))
    (hxt : ∀ x ∈ c.exceptionTable.toList, False) (hRf : 5 < R.frames) (hRl : (rest.map fun v => v.category).sum + 82 ≤ R.locals) (hRc : cells + 1 ≤ R.cells) (hRs : slots + 6 ≤ R.slots) (hlocks : meth.locks = false) (hPX : PX cls) (hc : cells + 1 ≤ mc) (hs : slots + 6 ≤ ms) :
    W p l e R s m args below meth c s.heap locs cells slots (vx_MQ below Qc (xX PX) args s mc ms A) (F0 m pc ls rest) := by
  obtain ⟨h1, -, h3, h4, -, -, -, -, -, h10⟩ := hE
  obtain ⟨sa, hsa⟩ := h10 _ hstr
  have hts := h1.all args
  exact vx_throwS hexec hb hl (names := xSup) hown hcls (by decide +kernel) (hts _ hk) (hts _ hini) hsa (fun w hw => hts _ (hat w hw)) hgood h3 h4 (A := A) hS hsize d0 d3 d4 d6 d9 (fun x hx => (hxt x hx).elim) hRf hRl hRc hRs hlocks (fun t _ h5 h6 => ⟨(), trivial, hPX, h5, fun q hq _ => h6 q hq⟩) hS.2.2 hc hs
theorem xgd_IAE : ∀ w ∈ Cond.classLink RX4 41 xIAE :: Cond.initialized xIAE :: vx_atS RX4 45 xIAE xSup, vx_ot w = true := by decide +kernel
theorem xgd_ISE : ∀ w ∈ Cond.classLink RX4 52 xISE :: Cond.initialized xISE :: vx_atS RX4 56 xISE xSup, vx_ot w = true := by decide +kernel
theorem xgd_IOB : ∀ w ∈ Cond.classLink RX4 73 xIOB :: Cond.initialized xIOB :: vx_atS RX4 77 xIOB xSup, vx_ot w = true := by decide +kernel
end XT
