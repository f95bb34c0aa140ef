/-! p22 in plain words: what the law's checks rest on. -/
def belN (v : Int32) (n : Nat) : Nat := (v &&& nI 2147483647).toNatClampNeg % n
theorem bel_eq (v : Int32) {n : Nat} (h0 : 0 < n) (hn : n < 2 ^ 31) : (v &&& nI 2147483647) - (v &&& nI 2147483647) / nI n * nI n = nI (belN v n) := by
  obtain ⟨j, hj, he⟩ := pk_andE v (m := nI 2147483647) 31 (by decide +kernel)
  unfold belN
  rw [he, pk_rem hj h0 hn, nI_clamp hj]
theorem bel_lt (v : Int32) {n : Nat} (h0 : 0 < n) : belN v n < n := Nat.mod_lt _ h0
def cellF (xs : Nat → Int32) (L k : Nat) : Int32 := if k < L then xs k else nI (790386105 * (k + 3))
theorem ile_tr {x y z : Int32} (h : x ≤ y) (h' : y ≤ z) : x ≤ z := by
  rw [i_le] at h h' ⊢
  omega
theorem bs_ge (g : Nat → Nat → Int32) (l d : Int32) (k : Nat) : (bsF g l d k).2.1.toInt ≤ (bsF g l d (k + 1)).2.1.toInt := by
  by_cases h : (rtF g (k + 1) ≤ l ∧ lkF g (k + 1) ≤ d) ∧ ((bsF g l d k).2.1 < gnF g (k + 1) ∨ (gnF g (k + 1) = (bsF g l d k).2.1 ∧ rtF g (k + 1) < (bsF g l d k).2.2))
  · have e : (bsF g l d (k + 1)).2.1.toInt = (gnF g (k + 1)).toInt := congrArg (fun z : Nat × Int32 × Int32 => z.2.1.toInt) (bs_yes h)
    rcases h.2 with q | q
    · rw [i_lt] at q
      omega
    · have q2 := congrArg Int32.toInt q.1
      omega
  · have e : (bsF g l d (k + 1)).2.1.toInt = (bsF g l d k).2.1.toInt := congrArg (fun z : Nat × Int32 × Int32 => z.2.1.toInt) (bs_no h)
    omega
theorem bs_fit {g : Nat → Nat → Int32} {l d : Int32} {k : Nat} (h1 : rtF g (k + 1) ≤ l) (h2 : lkF g (k + 1) ≤ d) : (gnF g (k + 1)).toInt ≤ (bsF g l d (k + 1)).2.1.toInt := by
  by_cases h : (rtF g (k + 1) ≤ l ∧ lkF g (k + 1) ≤ d) ∧ ((bsF g l d k).2.1 < gnF g (k + 1) ∨ (gnF g (k + 1) = (bsF g l d k).2.1 ∧ rtF g (k + 1) < (bsF g l d k).2.2))
  · have e : (bsF g l d (k + 1)).2.1.toInt = (gnF g (k + 1)).toInt := congrArg (fun z : Nat × Int32 × Int32 => z.2.1.toInt) (bs_yes h)
    omega
  · have h3 : ¬ (bsF g l d k).2.1 < gnF g (k + 1) := fun z => h ⟨⟨h1, h2⟩, Or.inl z⟩
    have e : (bsF g l d (k + 1)).2.1.toInt = (bsF g l d k).2.1.toInt := congrArg (fun z : Nat × Int32 × Int32 => z.2.1.toInt) (bs_no h)
    rw [i_lt] at h3
    omega
/-- more minutes, more load: the best round is not worse -/
theorem bs_mono {g : Nat → Nat → Int32} {l l' d d' : Int32} (hl : l ≤ l') (hd : d ≤ d') : ∀ k, (bsF g l d k).2.1.toInt ≤ (bsF g l' d' k).2.1.toInt
  | 0 => Int.le_refl _
  | k + 1 => by
    have ih := bs_mono (g := g) hl hd k
    have up := bs_ge g l' d' k
    by_cases h : (rtF g (k + 1) ≤ l ∧ lkF g (k + 1) ≤ d) ∧ ((bsF g l d k).2.1 < gnF g (k + 1) ∨ (gnF g (k + 1) = (bsF g l d k).2.1 ∧ rtF g (k + 1) < (bsF g l d k).2.2))
    · have e : (bsF g l d (k + 1)).2.1.toInt = (gnF g (k + 1)).toInt := congrArg (fun z : Nat × Int32 × Int32 => z.2.1.toInt) (bs_yes h)
      have f := bs_fit (g := g) (l := l') (d := d') (k := k) (ile_tr h.1.1 hl) (ile_tr h.1.2 hd)
      omega
    · have e : (bsF g l d (k + 1)).2.1.toInt = (bsF g l d k).2.1.toInt := congrArg (fun z : Nat × Int32 × Int32 => z.2.1.toInt) (bs_no h)
      omega
theorem selF_0 (f : Nat → Int32) : ∀ k, selF 0 f k = nI 0
  | 0 => rfl
  | k + 1 => by
    rw [selF_no (by rw [Nat.zero_testBit]; decide)]
    exact selF_0 f k
theorem bs_gn (g : Nat → Nat → Int32) (l d : Int32) : ∀ k, (bsF g l d k).2.1 = gnF g (bsF g l d k).1 ∧ ((bsF g l d k).1 = 0 ∨ (rtF g (bsF g l d k).1 ≤ l ∧ lkF g (bsF g l d k).1 ≤ d))
  | 0 => ⟨(selF_0 _ _).symm, Or.inl rfl⟩
  | k + 1 => by
    by_cases h : (rtF g (k + 1) ≤ l ∧ lkF g (k + 1) ≤ d) ∧ ((bsF g l d k).2.1 < gnF g (k + 1) ∨ (gnF g (k + 1) = (bsF g l d k).2.1 ∧ rtF g (k + 1) < (bsF g l d k).2.2))
    · rw [bs_yes h]
      exact ⟨rfl, Or.inr h.1⟩
    · rw [bs_no h]
      exact bs_gn g l d k
theorem selF_n {S n : Nat} (hS : S < 2 ^ n) (f : Nat → Int32) : ∀ d, selF S f (n + d) = selF S f n
  | 0 => rfl
  | d + 1 => by
    have h := selF_n hS f d
    show selF S f ((n + d) + 1) = _
    rw [selF_no (fun z => by
      have := bit_n hS z
      omega)]
    exact h
theorem selF_8 {S n : Nat} (hn : n ≤ 8) (hS : S < 2 ^ n) (f : Nat → Int32) : selF S f 8 = selF S f n := by
  have h := selF_n hS f (8 - n)
  rw [show n + (8 - n) = 8 by omega] at h
  exact h
/-- the chosen members' sum, of numbers -/
def selN (S : Nat) (f : Nat → Nat) : Nat → Nat
  | 0 => 0
  | k + 1 => selN S f k + (if S.testBit k = true then f k else 0)
theorem selN_yes {S k : Nat} {f : Nat → Nat} (h : S.testBit k = true) : selN S f (k + 1) = selN S f k + f k := by
  show selN S f k + (if S.testBit k = true then f k else 0) = _
  rw [if_pos h]
theorem selN_no {S k : Nat} {f : Nat → Nat} (h : ¬ S.testBit k = true) : selN S f (k + 1) = selN S f k := by
  show selN S f k + (if S.testBit k = true then f k else 0) = _
  rw [if_neg h, Nat.add_zero]
theorem selN_0 (f : Nat → Nat) : ∀ k, selN 0 f k = 0
  | 0 => rfl
  | k + 1 => by
    rw [selN_no (by rw [Nat.zero_testBit]; decide)]
    exact selN_0 f k
theorem selF_nI {S : Nat} {f : Nat → Int32} {h : Nat → Nat} : ∀ {k : Nat}, (∀ m, m < k → S.testBit m = true → f m = nI (h m)) → selF S f k = nI (selN S h k)
  | 0, _ => rfl
  | k + 1, e => by
    have ih := selF_nI (k := k) (fun m hm hb => e m (Nat.lt_succ_of_lt hm) hb)
    by_cases hb : S.testBit k = true
    · rw [selF_yes hb, selN_yes hb, ih, e k (Nat.lt_succ_self k) hb, nI_add]
    · rw [selF_no hb, selN_no hb, ih]
theorem selN_le {S c : Nat} {f : Nat → Nat} : ∀ {k : Nat}, (∀ m, m < k → S.testBit m = true → f m ≤ c) → selN S f k ≤ k * c
  | 0, _ => Nat.zero_le _
  | k + 1, e => by
    have ih := selN_le (k := k) (fun m hm hb => e m (Nat.lt_succ_of_lt hm) hb)
    have h2 : (k + 1) * c = k * c + c := Nat.succ_mul k c
    by_cases hb : S.testBit k = true
    · have h1 := e k (Nat.lt_succ_self k) hb
      rw [selN_yes hb]
      omega
    · rw [selN_no hb]
      omega
theorem p_subb0 : ∀ S, S < 256 → ∀ m, m < 8 → S.testBit m = true → ∀ j, j < 8 → (j = m ∨ (S - 2 ^ m).testBit j = S.testBit j) := by decide +kernel
theorem p_subb (S : Nat) (hS : S < 256) (m : Nat) (hm : m < 8) (hb : S.testBit m = true) (j : Nat) (hj : j < 8) (h : j ≠ m) : (S - 2 ^ m).testBit j = S.testBit j := (p_subb0 S hS m hm hb j hj).resolve_left h
theorem selN_sub {S m : Nat} {f : Nat → Nat} (hS : S < 256) (hm : m < 8) (hb : S.testBit m = true) : ∀ k, k ≤ 8 → selN S f k = selN (S - 2 ^ m) f k + (if m < k then f m else 0)
  | 0, _ => by
    rw [if_neg (Nat.not_lt_zero _)]
    rfl
  | k + 1, hk => by
    have ih := selN_sub (f := f) hS hm hb k (by omega)
    by_cases hkm : k = m
    · subst hkm
      rw [selN_yes hb, selN_no (S := S - 2 ^ k) (fun z => by
        rw [(p_sub S hS k hm hb).1] at z
        cases z), ih, if_neg (Nat.lt_irrefl _), if_pos (Nat.lt_succ_self _), Nat.add_zero]
    · have e : (if m < k + 1 then f m else 0) = (if m < k then f m else 0) := by
        by_cases q : m < k
        · rw [if_pos q, if_pos (by omega)]
        · rw [if_neg q, if_neg (by omega)]
      have hq := p_subb S hS m hm hb k (by omega) hkm
      rw [e]
      generalize (if m < k then f m else 0) = z at ih ⊢
      by_cases hbk : S.testBit k = true
      · rw [selN_yes hbk, selN_yes (S := S - 2 ^ m) (by rw [hq]; exact hbk), ih]
        omega
      · rw [selN_no hbk, selN_no (S := S - 2 ^ m) (by rw [hq]; exact hbk), ih]
/-- what a machine lacks -/
def lkS (g : Nat → Nat → Int32) (i : Nat) : Nat → Nat
  | 0 => 0
  | j + 1 => lkS g i j + lkN g (6 * i + j)
def lkM (g : Nat → Nat → Int32) (i : Nat) : Nat := lkS g i 6
theorem lkS_le (g : Nat → Nat → Int32) (i a : Nat) : ∀ b, lkS g i a ≤ lkS g i (a + b)
  | 0 => Nat.le_refl _
  | b + 1 => Nat.le_trans (lkS_le g i a b) (Nat.le_add_right _ _)
theorem lkS_nI {g : Nat → Nat → Int32} {n i : Nat} (h : slInv g n) (hi : i < n) : ∀ j, j ≤ 6 → sumFrom (nI 0) (fun j => g 4 (6 * i + j) - g 5 (6 * i + j)) j = nI (lkS g i j) ∧ lkS g i j ≤ 30 * j
  | 0, _ => ⟨rfl, Nat.le_refl _⟩
  | j + 1, hj => by
    obtain ⟨h1, h2⟩ := lkS_nI h hi j (by omega)
    obtain ⟨h3, h4⟩ := lk_eq h (k := 6 * i + j) (by omega)
    refine ⟨?_, ?_⟩
    · show sumFrom (nI 0) (fun j => g 4 (6 * i + j) - g 5 (6 * i + j)) j + (g 4 (6 * i + j) - g 5 (6 * i + j)) = nI (lkS g i j + lkN g (6 * i + j))
      rw [h1, h3, nI_add]
    · show lkS g i j + lkN g (6 * i + j) ≤ 30 * (j + 1)
      omega
theorem lack_nI {g : Nat → Nat → Int32} {n i : Nat} (h : slInv g n) (hi : i < n) : lackF g i = nI (lkM g i) ∧ lkM g i ≤ 180 := by
  unfold lackF lkM
  exact lkS_nI h hi 6 (Nat.le_refl _)
theorem lkS_c {g g' : Nat → Nat → Int32} {i : Nat} (h : ∀ j, j < 6 → g' 4 (6 * i + j) = g 4 (6 * i + j) ∧ g' 5 (6 * i + j) = g 5 (6 * i + j)) : ∀ j, j ≤ 6 → lkS g' i j = lkS g i j
  | 0, _ => rfl
  | j + 1, hj => by
    have ih := lkS_c h j (by omega)
    show lkS g' i j + lkN g' (6 * i + j) = lkS g i j + lkN g (6 * i + j)
    obtain ⟨e4, e5⟩ := h j (by omega)
    unfold lkN
    rw [ih, e4, e5]
theorem lkM_c {g g' : Nat → Nat → Int32} (h4 : g' 4 = g 4) (h5 : g' 5 = g 5) : lkM g' = lkM g := by
  funext i
  exact lkS_c (fun j _ => ⟨by rw [h4], by rw [h5]⟩) 6 (Nat.le_refl _)
theorem fu_full {g : Nat → Nat → Int32} {n i L : Nat} (h : slInv g n) (hi : i < n) (hL : lkM g i ≤ L) : ∀ j, j ≤ 6 → (fu g i L j).2 + lkS g i j = L ∧ (∀ k, (fu g i L j).1 5 k = if 6 * i ≤ k ∧ k < 6 * i + j then g 4 k else g 5 k)
  | 0, _ => ⟨rfl, fun k => by
    rw [if_neg (by omega)]
    rfl⟩
  | j + 1, hj => by
    obtain ⟨h1, h2⟩ := fu_full h hi hL j (by omega)
    obtain ⟨h3, h4⟩ := lk_eq h (k := 6 * i + j) (by omega)
    have e4 : (fu g i L j).1 4 = g 4 := fu_t g i L (by omega) j
    have e5 : (fu g i L j).1 5 (6 * i + j) = g 5 (6 * i + j) := by
      rw [h2, if_neg (by omega)]
    have eL : lkN (fu g i L j).1 (6 * i + j) = lkN g (6 * i + j) := by
      unfold lkN
      rw [e4, e5]
    have hle := lkS_le g i (j + 1) (5 - j)
    have hle2 : lkS g i (j + 1) = lkS g i j + lkN g (6 * i + j) := rfl
    rw [show j + 1 + (5 - j) = 6 by omega] at hle
    have hL2 : lkS g i 6 ≤ L := hL
    have hm : min (fu g i L j).2 (lkN (fu g i L j).1 (6 * i + j)) = lkN g (6 * i + j) := by
      rw [eL]
      omega
    refine ⟨?_, fun k => ?_⟩
    · show (fu g i L j).2 - min (fu g i L j).2 (lkN (fu g i L j).1 (6 * i + j)) + lkS g i (j + 1) = L
      rw [hm]
      omega
    · rw [fu_51, hm, e5]
      by_cases hk : k = 6 * i + j
      · subst hk
        rw [upd_eq, if_pos (by omega), ← h3, Int32.add_comm, Int32.sub_add_cancel]
      · rw [upd_ne hk, h2]
        by_cases hc : 6 * i ≤ k ∧ k < 6 * i + j
        · rw [if_pos hc, if_pos (by omega)]
        · rw [if_neg hc, if_neg (by omega)]
/-- a machine whose places are full -/
theorem lack_0 {g : Nat → Nat → Int32} {m : Nat} (h : ∀ j, j < 6 → g 5 (6 * m + j) = g 4 (6 * m + j)) : lackF g m = nI 0 ∧ gainF g m = g 1 m := by
  have a : ∀ j, j ≤ 6 → sumFrom (nI 0) (fun j => g 4 (6 * m + j) - g 5 (6 * m + j)) j = nI 0 := by
    intro j
    induction j with
    | zero => intro _; rfl
    | succ j ih =>
      intro hj
      show sumFrom (nI 0) (fun j => g 4 (6 * m + j) - g 5 (6 * m + j)) j + (g 4 (6 * m + j) - g 5 (6 * m + j)) = nI 0
      rw [ih (by omega), h j (by omega), Int32.sub_self, Int32.add_zero]
  have b : ∀ j, j ≤ 6 → sumFrom (g 1 m) (fun j => g 6 (6 * m + j) * (g 4 (6 * m + j) - g 5 (6 * m + j))) j = g 1 m := by
    intro j
    induction j with
    | zero => intro _; rfl
    | succ j ih =>
      intro hj
      show sumFrom (g 1 m) (fun j => g 6 (6 * m + j) * (g 4 (6 * m + j) - g 5 (6 * m + j))) j + g 6 (6 * m + j) * (g 4 (6 * m + j) - g 5 (6 * m + j)) = g 1 m
      rw [ih (by omega), h j (by omega), Int32.sub_self, Int32.mul_zero, Int32.add_zero]
  unfold lackF gainF
  exact ⟨a 6 (Nat.le_refl _), b 6 (Nat.le_refl _)⟩
/-- limits, boxes, prices are as the calls leave them -/
def bxInv (g : Nat → Nat → Int32) (n : Nat) : Prop := (∀ i, i < n → ∃ a c, g 0 i = nI a ∧ g 1 i = nI c ∧ a ≤ 100000 ∧ c ≤ a) ∧ ∀ k, k < 6 * n → ∃ p, g 6 k = nI p ∧ p ≤ 1000
theorem bx_c {g g' : Nat → Nat → Int32} {n : Nat} (h : bxInv g n) (h0 : g' 0 = g 0) (h1 : g' 1 = g 1) (h6 : g' 6 = g 6) : bxInv g' n := by
  unfold bxInv
  rw [h0, h1, h6]
  exact h
theorem slS_bx {p lim s0 : Int32} {pp a : Nat} (hp : p = nI pp) (hp2 : pp ≤ 1000) (hl : lim = nI a) (ha : a ≤ 100000) : ∀ (k : Nat) (c0 : Int32) (c : Nat), c0 = nI c → c ≤ a → ∃ c', (slS p lim s0 c0 k).2.1 = nI c' ∧ c' ≤ a
  | 0, _, c, h, h2 => ⟨c, h, h2⟩
  | k + 1, c0, c, h, h2 => by
    obtain ⟨c', h3, h4⟩ := slS_bx (s0 := s0) hp hp2 hl ha k c0 c h h2
    by_cases hc : 0 < (slS p lim s0 c0 k).1 ∧ (slS p lim s0 c0 k).2.1 + p ≤ lim
    · refine ⟨c' + pp, ?_, ?_⟩
      · rw [slS_yes hc.1 hc.2]
        show (slS p lim s0 c0 k).2.1 + p = _
        rw [h3, hp, nI_add]
      · have h5 := hc.2
        rw [h3, hp, hl, nI_add, nI_leI (by omega) (by omega)] at h5
        exact h5
    · rw [slS_no hc]
      exact ⟨c', h3, h4⟩
theorem sfF_bx {g : Nat → Nat → Int32} {n k : Nat} (h : bxInv g n) (hk : k < 6 * n) : bxInv (sfF g (k / 6) k) n := by
  have a1 : sfF g (k / 6) k 1 = upd (g 1) (k / 6) (slS (g 6 k) (g 0 (k / 6)) (g 5 k) (g 1 (k / 6)) (cl (g 7 k))).2.1 := by
    unfold sfF sfG
    rw [up_ne (by omega), up_ne (by omega), slG_1]
  have e0 : sfF g (k / 6) k 0 = g 0 := sfF_t _ _ _ (by omega) (by omega) (by omega) (by omega)
  have e6 : sfF g (k / 6) k 6 = g 6 := sfF_t _ _ _ (by omega) (by omega) (by omega) (by omega)
  refine ⟨fun i hi => ?_, fun j hj => by rw [e6]; exact h.2 j hj⟩
  rw [e0, a1]
  obtain ⟨a, c, h0, h1, h2, h3⟩ := h.1 i hi
  by_cases q : i = k / 6
  · rw [q] at h0 h1 ⊢
    rw [upd_eq]
    obtain ⟨p, hp, hp2⟩ := h.2 k hk
    obtain ⟨c', b1, b2⟩ := slS_bx (s0 := g 5 k) hp hp2 h0 h2 (cl (g 7 k)) (g 1 (k / 6)) c h1 h3
    exact ⟨a, c', h0, b1, h2, b2⟩
  · rw [upd_ne q]
    exact ⟨a, c, h0, h1, h2, h3⟩
theorem so_bx {g : Nat → Nat → Int32} {n : Nat} (h : bxInv g n) : ∀ j, j ≤ 6 * n → bxInv (so g 0 j).1 n
  | 0, _ => h
  | j + 1, hj => by
    have ih := sfF_bx (k := j) (so_bx h j (by omega)) (by omega)
    show bxInv (sfF (so g 0 j).1 ((0 + j) / 6) (0 + j)) n
    rw [Nat.zero_add]
    exact ih
theorem ps_bx {m : Nat} {g : Nat → Nat → Int32} (h : bxInv g m) : ∀ k, (psS m g 0 k).2.1 = 0 ∧ bxInv (psS m g 0 k).1 m
  | 0 => ⟨rfl, h⟩
  | k + 1 => by
    obtain ⟨h1, h2⟩ := ps_bx h k
    have h3 := so_bx h2 (6 * m) (Nat.le_refl _)
    refine ⟨?_, bx_c h3 ?_ ?_ ?_⟩
    · show (dyL (psS m g 0 k).1 m (psS m g 0 k).2.1).length = 0
      rw [h1]
      rfl
    · show chG (cpG (dyG (psS m g 0 k).1 m) (psS m g 0 k).2.1) (dyL (psS m g 0 k).1 m (psS m g 0 k).2.1) 0 = _
      rw [chG_t _ _ (by omega) (by omega) (by omega), cpG_t _ (by omega)]
      unfold dyG
      rw [up_ne (by omega)]
    · show chG (cpG (dyG (psS m g 0 k).1 m) (psS m g 0 k).2.1) (dyL (psS m g 0 k).1 m (psS m g 0 k).2.1) 1 = _
      rw [chG_t _ _ (by omega) (by omega) (by omega), cpG_t _ (by omega)]
      unfold dyG
      rw [up_ne (by omega)]
    · show chG (cpG (dyG (psS m g 0 k).1 m) (psS m g 0 k).2.1) (dyL (psS m g 0 k).1 m (psS m g 0 k).2.1) 6 = _
      rw [chG_t _ _ (by omega) (by omega) (by omega), h1]
      show dyG (psS m g 0 k).1 m 6 = _
      unfold dyG
      rw [up_ne (by omega)]
theorem dy_t (g : Nat → Nat → Int32) (m : Nat) {t : Nat} (h5 : t ≠ 5) (h1 : t ≠ 1) (h8 : t ≠ 8) (h9 : t ≠ 9) (h13 : t ≠ 13) : dyG g m t = g t := by
  unfold dyG
  rw [up_ne h13]
  exact so_t g 0 h5 h1 h8 h9 _
theorem ps_t {m : Nat} {g : Nat → Nat → Int32} {n t : Nat} (h1 : t ≠ 1) (h5 : t ≠ 5) (h6 : t ≠ 6) (h8 : t ≠ 8) (h9 : t ≠ 9) (h10 : t ≠ 10) (h11 : t ≠ 11) (h12 : t ≠ 12) (h13 : t ≠ 13) (k : Nat) : (psS m g n k).1 t = g t := by
  induction k with
  | zero => rfl
  | succ k ih =>
    show chG (cpG (dyG (psS m g n k).1 m) (psS m g n k).2.1) (dyL (psS m g n k).1 m (psS m g n k).2.1) t = g t
    rw [chG_t _ _ h10 h11 h12, cpG_t _ h6, dy_t _ m h5 h1 h8 h9 h13, ih]
theorem ps_day {m : Nat} {g : Nat → Nat → Int32} {n d0 : Nat} (hd : g 13 0 = nI d0) (k : Nat) : (psS m g n k).1 13 0 = nI (d0 + k) := by
  induction k with
  | zero => exact hd
  | succ k ih =>
    show chG (cpG (dyG (psS m g n k).1 m) (psS m g n k).2.1) (dyL (psS m g n k).1 m (psS m g n k).2.1) 13 0 = nI (d0 + (k + 1))
    rw [chG_t _ _ (by omega) (by omega) (by omega), cpG_t _ (by omega)]
    unfold dyG
    rw [up_eq, upd_eq, so_t _ 0 (by omega) (by omega) (by omega) (by omega), ih, nI_add]
    rfl
/-! a round's order -/
theorem vs_sub (w : Nat → Nat → Int32) {S n : Nat} (hn : n ≤ 8) (hS : S < 2 ^ n) : ∀ k, k ≤ bc S → ∀ j, j < 8 → (vs w S k).1.testBit j = true → S.testBit j = true
  | 0, _, _, _, h => h
  | k + 1, hk, j, hj, h => by
    have hp := pow256 hn
    obtain ⟨v1, v2, v3, v4⟩ := vs_next w (k := k) hn hS (by omega)
    exact vs_sub w hn hS k (by omega) j hj (p_sub_bit (vs w S k).1 (by omega) (vs w S (k + 1)).2 (by omega) v4 j hj h)
theorem vs_at (w : Nat → Nat → Int32) {S n : Nat} (hn : n ≤ 8) (hS : S < 2 ^ n) : ∀ k, k ≤ bc S → (vs w S k).2 ≤ 8
  | 0, _ => Nat.le_refl 8
  | k + 1, hk => by
    have h := (vs_next w (k := k) hn hS (by omega)).2.2.1
    omega
theorem vs_end (w : Nat → Nat → Int32) {S n : Nat} (hn : n ≤ 8) (hS : S < 2 ^ n) : (vs w S (bc S)).1 = 0 := by
  obtain ⟨h1, h2⟩ := vs_ok w hn hS (bc S) (Nat.le_refl _)
  have hp := pow256 hn
  exact p_bc0 _ (by omega) (by omega)
theorem p_or : ∀ s, s < 256 → ∀ i, i < 8 → nI s ||| nI (2 ^ i) = nI (s ||| 2 ^ i) ∧ (s ||| 2 ^ i) < 256 ∧ ∀ j, j < 8 → j ≠ i → (s ||| 2 ^ i).testBit j = s.testBit j := by decide +kernel
/-- the machines seen in k visits -/
def seenN (w : Nat → Nat → Int32) (S : Nat) : Nat → Nat
  | 0 => 0
  | k + 1 => seenN w S k ||| 2 ^ (vs w S (k + 1)).2
theorem seen_ok (w : Nat → Nat → Int32) {S n : Nat} (hn : n ≤ 8) (hS : S < 2 ^ n) : ∀ k, k ≤ bc S → seenN w S k < 256 ∧ ∀ j, j < 8 → (vs w S k).1.testBit j = true → (seenN w S k).testBit j = false
  | 0, _ => ⟨(show 0 < 256 by omega), fun j _ _ => Nat.zero_testBit j⟩
  | k + 1, hk => by
    have hp := pow256 hn
    obtain ⟨h1, h2⟩ := seen_ok w hn hS k (by omega)
    obtain ⟨v1, v2, v3, v4⟩ := vs_next w (k := k) hn hS (by omega)
    obtain ⟨-, o2, o3⟩ := p_or (seenN w S k) h1 (vs w S (k + 1)).2 (by omega)
    refine ⟨o2, fun j hj hb => ?_⟩
    have hb2 : ((vs w S k).1 - 2 ^ (vs w S (k + 1)).2).testBit j = true := hb
    have hji : j ≠ (vs w S (k + 1)).2 := fun z => by
      rw [z, (p_sub (vs w S k).1 (by omega) (vs w S (k + 1)).2 (by omega) v4).1] at hb2
      cases hb2
    show (seenN w S k ||| 2 ^ (vs w S (k + 1)).2).testBit j = false
    rw [o3 j hj hji]
    exact h2 j hj (p_sub_bit (vs w S k).1 (by omega) (vs w S (k + 1)).2 (by omega) v4 j hj hb2)
/-- the minutes driven in k visits -/
def drvF (w : Nat → Nat → Int32) (S : Nat) : Nat → Int32
  | 0 => nI 0
  | k + 1 => drvF w S k + w (vs w S k).2 (vs w S (k + 1)).2
theorem drv_ok (w : Nat → Nat → Int32) {S n : Nat} (hn : n ≤ 8) (hS : S < 2 ^ n) : ∀ k, k ≤ bc S → drvF w S k + tw w (vs w S k).1 (vs w S k).2 = tw w S 8
  | 0, _ => by
    show nI 0 + tw w S 8 = _
    rw [nI_0, Int32.zero_add]
  | k + 1, hk => by
    have hp := pow256 hn
    have ih := drv_ok w hn hS k (by omega)
    obtain ⟨v1, v2, v3, v4⟩ := vs_next w (k := k) hn hS (by omega)
    have hx := (nx_spec w (vs w S k).2 (S := (vs w S k).1) (by omega) v2).2.2.1
    show drvF w S k + w (vs w S k).2 (nx w (vs w S k).1 (vs w S k).2) + tw w ((vs w S k).1 - 2 ^ nx w (vs w S k).1 (vs w S k).2) (nx w (vs w S k).1 (vs w S k).2) = tw w S 8
    rw [Int32.add_assoc, hx]
    exact ih
theorem drv_end (w : Nat → Nat → Int32) {S n : Nat} (hn : n ≤ 8) (hS : S < 2 ^ n) : drvF w S (bc S) + w (vs w S (bc S)).2 8 = tw w S 8 := by
  have h := drv_ok w hn hS (bc S) (Nat.le_refl _)
  rw [vs_end w hn hS, tw_0] at h
  exact h
/-! a round made with load enough -/
theorem svG_b (g : Nat → Nat → Int32) (i : Nat) : svG g i 1 = upd (g 1) i (nI 0) := by
  unfold svG
  rw [up_ne (by omega), up_eq]
theorem svT_0 (tt : Nat → Int64) (c : Int32) (d : Nat) : svT tt c d 0 = tt 0 + c.toInt64 := by
  unfold svT
  rw [pk_uLn (by omega), pk_uLs]
theorem go_all {w : Nat → Nat → Int32} {S n e : Nat} {g : Nat → Nat → Int32} {tt : Nat → Int64} {L : Nat} (hL : L = selN S (lkM g) 8 + e) (hn : n ≤ 8) (hS : S < 2 ^ n) (h : slInv g n) (hb : bxInv g n) : ∀ k, k ≤ bc S →
    (goS w S g tt L k).2.2 = selN (vs w S k).1 (lkM g) 8 + e ∧ (goS w S g tt L k).2.1 0 + lN (selN (vs w S k).1 (fun m => cl (g 1 m)) 8) = tt 0 + lN (selN S (fun m => cl (g 1 m)) 8) ∧
    (∀ m, m < 8 → ((vs w S k).1.testBit m = true ∨ ¬ S.testBit m = true) → (goS w S g tt L k).1 1 m = g 1 m ∧ ∀ j, j < 6 → (goS w S g tt L k).1 5 (6 * m + j) = g 5 (6 * m + j)) ∧
    (∀ m, m < 8 → S.testBit m = true → ¬ (vs w S k).1.testBit m = true → (goS w S g tt L k).1 1 m = nI 0 ∧ ∀ j, j < 6 → (goS w S g tt L k).1 5 (6 * m + j) = g 4 (6 * m + j))
  | 0, _ => ⟨hL, rfl, fun m _ _ => ⟨rfl, fun j _ => rfl⟩, fun m _ h1 h2 => absurd h1 h2⟩
  | k + 1, hk => by
    have hp := pow256 hn
    obtain ⟨i1, i2, i3, i4⟩ := go_all (w := w) (tt := tt) hL hn hS h hb k (by omega)
    obtain ⟨v1, v2, v3, v4⟩ := vs_next w (k := k) hn hS (by omega)
    have hSi := vs_sub w hn hS k (by omega) (vs w S (k + 1)).2 (by omega) v4
    have hiv : slInv (goS w S g tt L k).1 n := goS_iv tt L hn hS h k (by omega)
    have e4g : (goS w S g tt L k).1 4 = g 4 := goS_t w S g tt L (by omega) (by omega) (by omega) k
    have hU : (vs w S (k + 1)).1 = (vs w S k).1 - 2 ^ (vs w S (k + 1)).2 := rfl
    have hG : goS w S g tt L (k + 1) = svF (goS w S g tt L k).1 (goS w S g tt L k).2.1 (vs w S (k + 1)).2 (goS w S g tt L k).2.2 := rfl
    generalize (vs w S (k + 1)).2 = i at v3 v4 hSi hU hG
    rw [hU, hG]
    obtain ⟨hi1, hi5⟩ := i3 i (by omega) (Or.inl v4)
    generalize hgk : goS w S g tt L k = G at i1 i2 i3 i4 hiv e4g hi1 hi5
    obtain ⟨g1, t1, L1⟩ := G
    dsimp only at i1 i2 i3 i4 hiv e4g hi1 hi5 ⊢
    have hv5 : svG g1 i 5 = g1 5 := svG_t g1 i (by omega) (by omega)
    have hv4 : svG g1 i 4 = g1 4 := svG_t g1 i (by omega) (by omega)
    have hiv2 : slInv (svG g1 i) n := inv_c hiv hv4 hv5 (svG_t g1 i (by omega) (by omega))
    have hlk : lkM (svG g1 i) i = lkM g i := lkS_c (fun j hj => ⟨by rw [hv4, e4g], by rw [hv5]; exact hi5 j hj⟩) 6 (Nat.le_refl _)
    have hs1 := selN_sub (f := lkM g) (S := (vs w S k).1) (by omega) (show i < 8 by omega) v4 8 (Nat.le_refl _)
    have hs2 := selN_sub (f := fun m => cl (g 1 m)) (S := (vs w S k).1) (by omega) (show i < 8 by omega) v4 8 (Nat.le_refl _)
    rw [if_pos (by omega)] at hs1 hs2
    obtain ⟨f1, f2⟩ := fu_full hiv2 v3 (L := L1) (by rw [hlk]; omega) 6 (Nat.le_refl _)
    have f1' : (fu (svG g1 i) i L1 6).2 + lkM (svG g1 i) i = L1 := f1
    obtain ⟨a, c, b0, b1, b2, b3⟩ := hb.1 i v3
    have hc : cl (g 1 i) = c := by rw [b1, cl_nI (by omega)]
    have hbox : ∀ m, (svF g1 t1 i L1).1 1 m = upd (g1 1) i (nI 0) m := fun m => by
      show (fu (svG g1 i) i L1 6).1 1 m = _
      rw [fu_t _ _ _ (by omega), svG_b]
    have hst : ∀ k, (svF g1 t1 i L1).1 5 k = if 6 * i ≤ k ∧ k < 6 * i + 6 then g 4 k else g1 5 k := fun k => by
      show (fu (svG g1 i) i L1 6).1 5 k = _
      rw [f2 k, hv4, hv5, e4g]
    refine ⟨?_, ?_, fun m hm hq => ?_, fun m hm hq hr => ?_⟩
    · show (fu (svG g1 i) i L1 6).2 = _
      omega
    · show svT t1 (g1 1 i) (L1 - (fu (svG g1 i) i L1 6).2) 0 + _ = _
      rw [svT_0, hi1, b1, nI_l (by omega), ← i2, hs2, hc, Int64.add_assoc, lN_add, Nat.add_comm c]
    · have hmi : m ≠ i := fun z => by
        rw [z] at hq
        rcases hq with q | q
        · rw [(p_sub (vs w S k).1 (by omega) i (by omega) v4).1] at q
          cases q
        · exact q hSi
      obtain ⟨j1, j2⟩ := i3 m hm (hq.imp (fun q => p_sub_bit (vs w S k).1 (by omega) i (by omega) v4 m hm q) id)
      refine ⟨by rw [hbox, upd_ne hmi]; exact j1, fun j hj => ?_⟩
      rw [hst, if_neg (by omega)]
      exact j2 j hj
    · by_cases hmi : m = i
      · subst hmi
        refine ⟨by rw [hbox, upd_eq], fun j hj => ?_⟩
        rw [hst, if_pos (by omega)]
      · rw [p_subb (vs w S k).1 (by omega) i (by omega) v4 m hm hmi] at hr
        obtain ⟨j1, j2⟩ := i4 m hm hq hr
        refine ⟨by rw [hbox, upd_ne hmi]; exact j1, fun j hj => ?_⟩
        rw [hst, if_neg (by omega)]
        exact j2 j hj
/-- what a round with load enough leaves -/
theorem go_end {w : Nat → Nat → Int32} {S n e : Nat} {g : Nat → Nat → Int32} {tt : Nat → Int64} {L : Nat} (hL : L = selN S (lkM g) 8 + e) (hn : n ≤ 8) (hS : S < 2 ^ n) (h : slInv g n) (hb : bxInv g n) :
    (goS w S g tt L (bc S)).2.2 = e ∧ (goS w S g tt L (bc S)).2.1 0 = tt 0 + lN (selN S (fun m => cl (g 1 m)) 8) ∧ bxInv (goS w S g tt L (bc S)).1 n ∧
    ∀ m, m < 8 → S.testBit m = true → (goS w S g tt L (bc S)).1 1 m = nI 0 ∧ lackF (goS w S g tt L (bc S)).1 m = nI 0 ∧ gainF (goS w S g tt L (bc S)).1 m = nI 0 := by
  obtain ⟨i1, i2, i3, i4⟩ := go_all (w := w) (tt := tt) hL hn hS h hb (bc S) (Nat.le_refl _)
  rw [vs_end w hn hS] at i1 i2 i3 i4
  rw [selN_0] at i1 i2
  have e4 : (goS w S g tt L (bc S)).1 4 = g 4 := goS_t w S g tt L (by omega) (by omega) (by omega) _
  have e0 : (goS w S g tt L (bc S)).1 0 = g 0 := goS_t w S g tt L (by omega) (by omega) (by omega) _
  have e6 : (goS w S g tt L (bc S)).1 6 = g 6 := goS_t w S g tt L (by omega) (by omega) (by omega) _
  have hz : ∀ m, ¬ (0 : Nat).testBit m = true := fun m => by rw [Nat.zero_testBit]; decide
  refine ⟨by omega, ?_, ⟨fun i hi => ?_, fun k hk => by rw [e6]; exact hb.2 k hk⟩, fun m hm hq => ?_⟩
  · rw [← i2]
    show _ = _ + lN 0
    rw [show lN 0 = 0 from rfl, Int64.add_zero]
  · rw [e0]
    obtain ⟨a, c, b0, b1, b2, b3⟩ := hb.1 i hi
    by_cases hq : S.testBit i = true
    · rw [(i4 i (by omega) hq (hz i)).1]
      exact ⟨a, 0, b0, rfl, b2, Nat.zero_le _⟩
    · rw [(i3 i (by omega) (Or.inr hq)).1]
      exact ⟨a, c, b0, b1, b2, b3⟩
  · obtain ⟨j1, j2⟩ := i4 m hm hq (hz m)
    obtain ⟨l1, l2⟩ := lack_0 (g := (goS w S g tt L (bc S)).1) (m := m) (fun j hj => by rw [j2 j hj, e4])
    exact ⟨j1, l1, by rw [l2, j1]⟩
