/-! THE CLAIM OUT OF ONE WALK OF THE LAW'S BODY. Your part is whole_start (and what it stands on); all else here is the same for every law, but numbers. -/
def R_law : String := "VendingRoundsLaw"
def lw_P (b : Addr) (xs : List Int32) (args : Array Value) (s : State) : Prop := args = #[.ref b] ∧ s.IntsAt b xs ∧ xs.length ≤ 260 ∧ (Jvm.Cond.and given_1 narrow_1).before args s = true
def lw_Q (_ : Array Value) (s : State) (o : Outcome) (t : State) : Prop := o = .returned (some (.int 1)) ∧ Framed s o t [] 626463 7222236
def lw_Z (below : List Frame) (a : Array Value) (s : State) : State → Prop := fun t => ∃ o, t.status = .running ∧ Ended t below o ∧ lw_Q a s o t
/-- the law's own end, with 1 on the stack, nothing written that was there before, its room as the claim has it -/
theorem lw_ret {p : Program} {l : Launch} {e : Env} {s : State} {m : MethodId} {below : List Frame} {meth : Method} {c : Code} {b : Nat} (hx : p.tables.exec = Jvm.exec) (hb : c.code = code) (hr : meth.sig.returnType = ret) (hlocks : meth.locks = false) {pc : Nat} {H : Heap} {ls : Array Slot} (hdg : decode code pc = .ok (.ireturn, 1)) : W p l e room_1 s m #[Value.ref b] below meth c H [] 626463 7222236 (lw_Z below #[Value.ref b] s) (F0 m pc ls [.int 1]) := by
  intro T hT X
  obtain ⟨fs, hret, hrun, hended, hW, hframe⟩ := X.leave (v := some (.int 1)) (hlocks := hlocks) (fun h => by rw [hr] at h; cases h)
  have hmeth' : T.vm.method? m = some meth := X.method'
  refine ⟨T.setFrames fs, ?_, .returned (some (.int 1)), hrun, hended, rfl, ⟨_, rfl⟩, hW, hframe⟩
  jvm_step X.here [X.here.top, hx, hb, hdg, hmeth', hr, ret, narrow_b1]
  (try refine ⟨rfl, ?_⟩); (try refine ⟨rfl, ?_⟩)
  first | (intro acts; rw [hret _ acts rfl rfl rfl]) | rw [hret _ _ rfl rfl rfl]
  exact Steps.refl _
/-- what holds at the law's entry: the machine, the code, the tables' words (any of lw_tbl by 'hts w (by decide +kernel)'), the script of L ints xs at the cell b, what the Statement gives of the start (any of its parts by flat_of_before) -/
def lw_At (p : Program) (s : State) (m : MethodId) (meth : Method) (c : Code) (b L : Nat) (xs : Nat → Int32) : Prop :=
  p.tables.exec = Jvm.exec ∧ c.code = code ∧ meth.sig.returnType = ret ∧ c.maxLocals = 23 ∧ s.vm.findClass R_law = some m.cls ∧ (∀ w ∈ lw_tbl, w.before #[Value.ref b] s = true) ∧ va_X b L xs s s.heap ∧ b < s.heap.size ∧ meth.locks = false ∧ (Jvm.Cond.and given_1 narrow_1).before #[Value.ref b] s = true
/-! the law's own words -/
abbrev lwA (s : State) : Nat → Prop := fun q => s.heap.size ≤ q
def lwC (p : Program) (l : Launch) (s : State) (m : MethodId) (meth : Method) (c : Code) (b L : Nat) (xs : Nat → Int32) (D : va_G) (cA : Nat → ClassId) (e0 w : Nat) (Fc : Nat → Prop) : Prop :=
  p.tables.exec = Jvm.exec ∧ c.code = cL_law ∧ meth.sig.returnType = ret ∧ c.maxLocals = 23 ∧ s.vm.findClass RL = some m.cls ∧ xE D cA e0 (lwA s) s.heap s ∧ va_X b L xs s s.heap ∧ b < s.heap.size ∧ meth.locks = false ∧ L ≤ 260 ∧ l.stackTraces = false ∧ (∀ q, Fc q → lwA s q) ∧ ¬ Fc w
theorem lg_self (x : Int64) : lg_cmp x x = nI 0 := by
  unfold lg_cmp
  rw [if_neg (fun z => absurd z (Int64.lt_irrefl)), if_pos rfl]
  rfl
theorem mF (g : Nat → Nat → Int32) {i w : Nat} (hi : i < 2 ^ 31) (hw : w < 2 ^ 31) : machF g (cl (nI i)) (cl (nI w)) = machF g i w := by rw [cl_nI hi, cl_nI hw]
theorem bit_t {S i : Nat} (h : ¬ (if S.testBit i = true then nI 1 else nI 0) = 0) : S.testBit i = true := by
  cases hq : S.testBit i with
  | true => rfl
  | false => rw [hq] at h; exact absurd rfl h
theorem bit_f {S i : Nat} (h : (if S.testBit i = true then nI 1 else nI 0) = 0) : ¬ S.testBit i = true := fun z => by
  rw [if_pos z] at h
  exact absurd h (by decide)
theorem bit_t1 {S i : Nat} (h : (if S.testBit i = true then nI 1 else nI 0) = nI 1) : S.testBit i = true := by
  cases hq : S.testBit i with
  | true => rfl
  | false => rw [hq] at h; exact absurd h (by decide)
theorem bit_f1 {S i : Nat} (h : ¬ (if S.testBit i = true then nI 1 else nI 0) = nI 1) : ¬ S.testBit i = true := fun z => by
  rw [if_pos z] at h
  exact absurd rfl h
theorem ile_ngt {x y : Int32} (h : x ≤ y) : ¬ x > y := fun z => by
  have h1 : y < x := z
  rw [i_lt] at h1
  rw [i_le] at h
  omega
theorem sv_fn {g g2 : Nat → Nat → Int32} {n : Nat} (h : svOK g g2 n) : gainF g2 = gainF g ∧ lackF g2 = lackF g ∧ rtF g2 = rtF g ∧ lkF g2 = lkF g ∧ gnF g2 = gnF g := by
  have e1 := h.1 1 (by omega) (by omega) (by omega)
  have e4 := h.1 4 (by omega) (by omega) (by omega)
  have e5 := h.1 5 (by omega) (by omega) (by omega)
  have e6 := h.1 6 (by omega) (by omega) (by omega)
  have hg : gainF g2 = gainF g := by
    funext i
    exact gainF_c e1 e4 e5 e6 i
  have hl : lackF g2 = lackF g := by
    funext i
    exact lackF_c e4 e5 i
  have hv : vtF g2 = vtF g := by
    funext i
    exact vtF_c e4 e5 i
  refine ⟨hg, hl, ?_, ?_, ?_⟩
  · funext S
    unfold rtF
    rw [sv_wy h, hv]
  · funext S
    unfold lkF
    rw [hl]
  · funext S
    unfold gnF
    rw [hg]
theorem sv_bs {g g2 : Nat → Nat → Int32} {n : Nat} (h : svOK g g2 n) (lim load : Int32) : ∀ k, bsF g2 lim load k = bsF g lim load k
  | 0 => rfl
  | k + 1 => by
    obtain ⟨-, -, h3, h4, h5⟩ := sv_fn h
    have ih := sv_bs h lim load k
    show (if (rtF g2 (k + 1) ≤ lim ∧ lkF g2 (k + 1) ≤ load) ∧ ((bsF g2 lim load k).2.1 < gnF g2 (k + 1) ∨ (gnF g2 (k + 1) = (bsF g2 lim load k).2.1 ∧ rtF g2 (k + 1) < (bsF g2 lim load k).2.2)) then (k + 1, gnF g2 (k + 1), rtF g2 (k + 1)) else bsF g2 lim load k) = (if (rtF g (k + 1) ≤ lim ∧ lkF g (k + 1) ≤ load) ∧ ((bsF g lim load k).2.1 < gnF g (k + 1) ∨ (gnF g (k + 1) = (bsF g lim load k).2.1 ∧ rtF g (k + 1) < (bsF g lim load k).2.2)) then (k + 1, gnF g (k + 1), rtF g (k + 1)) else bsF g lim load k)
    rw [h3, h4, h5, ih]
theorem rt_0 {g : Nat → Nat → Int32} (h : g 3 80 = nI 0) : rtF g 0 = nI 0 := by
  unfold rtF
  rw [tw_0, selF_0]
  show g 3 80 + nI 0 = nI 0
  rw [h]
  exact nI_add 0 0
theorem best_ok {g : Nat → Nat → Int32} {n lim load : Nat} (hn : n ≤ 8) (h8 : g 3 80 = nI 0) (hl : lim < 2 ^ 31) (hd : load < 2 ^ 31) : (bsF g (nI lim) (nI load) (2 ^ n - 1)).1 < 2 ^ n ∧ rtF g (bsF g (nI lim) (nI load) (2 ^ n - 1)).1 ≤ nI lim ∧ selF (bsF g (nI lim) (nI load) (2 ^ n - 1)).1 (lackF g) n ≤ nI load := by
  have hp := Nat.two_pow_pos n
  have h1 := bs_le g (nI lim) (nI load) (2 ^ n - 1)
  obtain ⟨-, h2⟩ := bs_gn g (nI lim) (nI load) (2 ^ n - 1)
  generalize (bsF g (nI lim) (nI load) (2 ^ n - 1)).1 = S at h1 h2 ⊢
  have hS : S < 2 ^ n := by omega
  rw [← selF_8 hn hS]
  rcases h2 with h3 | ⟨h3, h4⟩
  · rw [h3, rt_0 h8, selF_0]
    exact ⟨hp, nI_le (Nat.zero_le _) hl, nI_le (Nat.zero_le _) hd⟩
  · exact ⟨hS, h3, h4⟩
theorem best_mono {g : Nat → Nat → Int32} {n l l' d d' : Nat} (hn : n ≤ 8) (hl : l ≤ l') (hd : d ≤ d') (h1 : l' < 2 ^ 31) (h2 : d' < 2 ^ 31) : selF (bsF g (nI l) (nI d) (2 ^ n - 1)).1 (gainF g) n ≤ selF (bsF g (nI l') (nI d') (2 ^ n - 1)).1 (gainF g) n := by
  have hp := Nat.two_pow_pos n
  have a := bs_le g (nI l) (nI d) (2 ^ n - 1)
  have b := bs_le g (nI l') (nI d') (2 ^ n - 1)
  have c := (bs_gn g (nI l) (nI d) (2 ^ n - 1)).1
  have e := (bs_gn g (nI l') (nI d') (2 ^ n - 1)).1
  have m := bs_mono (g := g) (nI_le hl h1) (nI_le hd h2) (2 ^ n - 1)
  rw [c, e] at m
  have x := selF_8 hn (S := (bsF g (nI l) (nI d) (2 ^ n - 1)).1) (by omega) (gainF g)
  have y := selF_8 hn (S := (bsF g (nI l') (nI d') (2 ^ n - 1)).1) (by omega) (gainF g)
  rw [i_le, ← x, ← y]
  exact m
/-- what holds between the law's calls -/
def pI (D : va_G) (cA : Nat → ClassId) (e0 : Nat) (A : Nat → Prop) (w : Nat) (ad : Nat → Nat → Nat) (g : Nat → Nat → Int32) (tt : Nat → Int64) (N : Nat → Nat) (H : Heap) (n : Nat) : Prop :=
  xW D cA ad g tt N H ∧ xA A e0 ad N ∧ N 0 = n ∧ N 1 = 0 ∧ slInv g n ∧ hwAll g n ∧ bxInv g n ∧ va_at D vwCl (w, .inl (cA 0, 81, .inl (g 3))) H ∧ g 3 80 = nI 0
section PI
variable {D : va_G} {cA : Nat → ClassId} {e0 x0 w n : Nat} {A : Nat → Prop} {ad ad2 : Nat → Nat → Nat} {g g2 : Nat → Nat → Int32} {tt : Nat → Int64} {N N2 : Nat → Nat} {H H1 : Heap}
theorem pI_of (h : bS D cA e0 A x0 w ad g N H) (hn : N 0 = n) : pI D cA e0 A w ad g (fun _ => 0) N H n ∧ g 13 0 = nI 0 := by
  obtain ⟨b1, b2, b3, b4, b5, b6, b7, b8, b9, b10⟩ := h
  rw [hn] at b5 b6 b7
  exact ⟨⟨b1, b2, hn, b4, b5, b6, b7, b9, b10⟩, b8⟩
theorem pI_sv (h : pI D cA e0 A w ad g tt N H n) (hX : xW D cA ad g2 tt N H1) (hv : svOK g g2 (N 0)) (hk : H1[w]? = H[w]?) : pI D cA e0 A w ad g2 tt N H1 n := by
  obtain ⟨-, b2, b3, b4, b5, b6, b7, b8, b9⟩ := h
  have e : ∀ t, t ≠ 14 → t ≠ 15 → t ≠ 16 → g2 t = g t := hv.1
  refine ⟨hX, b2, b3, b4, inv_c b5 (e 4 (by omega) (by omega) (by omega)) (e 5 (by omega) (by omega) (by omega)) (e 7 (by omega) (by omega) (by omega)), hwAll_c (e 3 (by omega) (by omega) (by omega)) (e 17 (by omega) (by omega) (by omega)) b6, bx_c b7 (e 0 (by omega) (by omega) (by omega)) (e 1 (by omega) (by omega) (by omega)) (e 6 (by omega) (by omega) (by omega)), ?_, ?_⟩
  · rw [e 3 (by omega) (by omega) (by omega)]
    exact b8.kept hk
  · rw [e 3 (by omega) (by omega) (by omega)]
    exact b9
/-- a round with load enough, behind the survey g2 -/
theorem pI_go {S lk e : Nat} {tt0 T : Nat → Int64} {W : Nat → Nat → Int32} {L : Nat} (h : pI D cA e0 A w ad g tt0 N H n) (hv : svOK g g2 (N 0)) (hn : n ≤ 8) (hS : S < 2 ^ n) (hlk : lk = selN S (lkM g) 8) (hL : L = lk + e) (hX : xW D cA ad (goS W S g2 T L (bc S)).1 (goS W S g2 T L (bc S)).2.1 N H1) (hk : H1[w]? = H[w]?) :
    pI D cA e0 A w ad (goS W S g2 T L (bc S)).1 (goS W S g2 T L (bc S)).2.1 N H1 n ∧ (goS W S g2 T L (bc S)).2.2 = e ∧ (goS W S g2 T L (bc S)).2.1 0 = T 0 + lN (selN S (fun m => cl (g 1 m)) 8) ∧ (goS W S g2 T L (bc S)).1 13 = g 13 ∧
    ∀ m, m < 8 → S.testBit m = true → (goS W S g2 T L (bc S)).1 1 m = nI 0 ∧ lackF (goS W S g2 T L (bc S)).1 m = nI 0 ∧ gainF (goS W S g2 T L (bc S)).1 m = nI 0 := by
  obtain ⟨-, b2, b3, b4, b5, b6, b7, b8, b9⟩ := h
  have e9 : ∀ t, t ≠ 14 → t ≠ 15 → t ≠ 16 → g2 t = g t := hv.1
  have i2 : slInv g2 n := inv_c b5 (e9 4 (by omega) (by omega) (by omega)) (e9 5 (by omega) (by omega) (by omega)) (e9 7 (by omega) (by omega) (by omega))
  have x2 : bxInv g2 n := bx_c b7 (e9 0 (by omega) (by omega) (by omega)) (e9 1 (by omega) (by omega) (by omega)) (e9 6 (by omega) (by omega) (by omega))
  have hl2 : lkM g2 = lkM g := lkM_c (e9 4 (by omega) (by omega) (by omega)) (e9 5 (by omega) (by omega) (by omega))
  obtain ⟨q1, q2, q3, q4⟩ := go_end (w := W) (tt := T) (e := e) (L := L) (by rw [hl2, ← hlk]; exact hL) hn hS i2 x2
  have f : ∀ t, t ≠ 1 → t ≠ 2 → t ≠ 5 → (goS W S g2 T L (bc S)).1 t = g2 t := fun t h1 h2 h5 => goS_t W S g2 T L h1 h2 h5 (bc S)
  have e1 := e9 1 (by omega) (by omega) (by omega)
  rw [e1] at q2
  refine ⟨⟨hX, b2, b3, b4, goS_iv T L hn hS i2 (bc S) (Nat.le_refl _), hwAll_c ((f 3 (by omega) (by omega) (by omega)).trans (e9 3 (by omega) (by omega) (by omega))) ((f 17 (by omega) (by omega) (by omega)).trans (e9 17 (by omega) (by omega) (by omega))) b6, q3, ?_, ?_⟩, q1, q2, (f 13 (by omega) (by omega) (by omega)).trans (e9 13 (by omega) (by omega) (by omega)), q4⟩
  · rw [f 3 (by omega) (by omega) (by omega), e9 3 (by omega) (by omega) (by omega)]
    exact b8.kept hk
  · rw [f 3 (by omega) (by omega) (by omega), e9 3 (by omega) (by omega) (by omega)]
    exact b9
theorem pI_ps {k d : Nat} (h : pI D cA e0 A w ad g tt N H n) (hd : g 13 0 = nI d) (hX : xW D cA ad2 g2 tt N2 H1) (hA2 : xA A e0 ad2 N2) (p2 : eq4 (psS (N 0) g (N 1) k).1 g2) (p3 : N2 1 = (psS (N 0) g (N 1) k).2.1) (p4 : ∀ c, c ≠ 1 → N2 c = N c) (hk : H1[w]? = H[w]?) : pI D cA e0 A w ad2 g2 tt N2 H1 n ∧ g2 13 0 = nI (d + k) := by
  obtain ⟨-, b2, b3, b4, b5, b6, b7, b8, b9⟩ := h
  rw [b3, b4] at p2 p3
  have f : ∀ t, t ≠ 1 → t ≠ 5 → t ≠ 6 → t ≠ 8 → t ≠ 9 → t ≠ 10 → t ≠ 11 → t ≠ 12 → t ≠ 13 → t ≠ 14 → t ≠ 15 → t ≠ 16 → t ≠ 18 → g2 t = g t := fun t h1 h5 h6 h8 h9 h10 h11 h12 h13 h14 h15 h16 h18 => (p2 t h14 h15 h16 h18).trans (ps_t h1 h5 h6 h8 h9 h10 h11 h12 h13 k)
  have q : ∀ t, t ≠ 14 → t ≠ 15 → t ≠ 16 → t ≠ 18 → g2 t = (psS n g 0 k).1 t := p2
  obtain ⟨r1, r2⟩ := ps_bx b7 k
  have e3 : g2 3 = g 3 := f 3 (by omega) (by omega) (by omega) (by omega) (by omega) (by omega) (by omega) (by omega) (by omega) (by omega) (by omega) (by omega) (by omega)
  have e17 : g2 17 = g 17 := f 17 (by omega) (by omega) (by omega) (by omega) (by omega) (by omega) (by omega) (by omega) (by omega) (by omega) (by omega) (by omega) (by omega)
  refine ⟨⟨hX, hA2, (p4 0 (by omega)).trans b3, by rw [p3, r1], inv_c (ps_iv b5 k) (q 4 (by omega) (by omega) (by omega) (by omega)) (q 5 (by omega) (by omega) (by omega) (by omega)) (q 7 (by omega) (by omega) (by omega) (by omega)), hwAll_c e3 e17 b6, bx_c r2 (q 0 (by omega) (by omega) (by omega) (by omega)) (q 1 (by omega) (by omega) (by omega) (by omega)) (q 6 (by omega) (by omega) (by omega) (by omega)), ?_, ?_⟩, ?_⟩
  · rw [e3]
    exact b8.kept hk
  · rw [e3]
    exact b9
  · rw [q 13 (by omega) (by omega) (by omega) (by omega)]
    exact ps_day hd k
end PI
/-- what the chosen machines lack, what their boxes hold -/
theorem lack_S {g : Nat → Nat → Int32} {n S : Nat} (hn : n ≤ 6) (hS : S < 2 ^ n) (h : slInv g n) : selF S (lackF g) n = nI (selN S (lkM g) 8) ∧ selN S (lkM g) 8 ≤ 1440 := by
  refine ⟨?_, ?_⟩
  · rw [← selF_8 (by omega) hS]
    exact selF_nI (fun m _ hb => (lack_nI h (bit_n hS hb)).1)
  · have h1 := selN_le (S := S) (f := lkM g) (c := 180) (k := 8) (fun m _ hb => (lack_nI h (bit_n hS hb)).2)
    omega
theorem coin_S {g : Nat → Nat → Int32} {n S : Nat} (hn : n ≤ 6) (hS : S < 2 ^ n) (h : bxInv g n) : (selF S (g 1) n).toInt64 = lN (selN S (fun m => cl (g 1 m)) 8) := by
  have e : ∀ m, m < n → g 1 m = nI (cl (g 1 m)) ∧ cl (g 1 m) ≤ 100000 := fun m hm => by
    obtain ⟨a, c, b0, b1, b2, b3⟩ := h.1 m hm
    rw [b1, cl_nI (by omega)]
    exact ⟨rfl, by omega⟩
  have h1 := selN_le (S := S) (f := fun m => cl (g 1 m)) (c := 100000) (k := 8) (fun m _ hb => (e m (bit_n hS hb)).2)
  rw [← selF_8 (by omega) hS, selF_nI (h := fun m => cl (g 1 m)) (fun m _ hb => (e m (bit_n hS hb)).1), nI_l (by omega)]
