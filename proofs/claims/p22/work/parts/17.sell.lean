/-! Selling and filling, in plain words. -/
def mnI (x y : Int32) : Int32 := if y < x then y else x
def ssF (g : Nat → Nat → Int32) (k : Nat) (c d : Int32) : Nat → Nat → Int32 :=
  va_up (va_up (va_up g 4 (upd (g 4) k c)) 5 (upd (va_up g 4 (upd (g 4) k c) 5) k (mnI (va_up g 4 (upd (g 4) k c) 5 k) c))) 7 (upd (va_up (va_up g 4 (upd (g 4) k c)) 5 (upd (va_up g 4 (upd (g 4) k c) 5) k (mnI (va_up g 4 (upd (g 4) k c) 5 k) c)) 7) k d)
def okR (a b : Nat) (v : Int32) : Prop := ∃ j, a ≤ j ∧ j ≤ b ∧ v = nI j
def okP (n : Nat) (v : Int32) : Prop := v = -1 ∨ okM n v
def plN (v : Int32) : Nat := if v = -1 then 8 else cl v
theorem ou_r {v : Int32} {a b : Nat} (hb : b < 2 ^ 30) (ha : a < 2 ^ 30) : ouI v (nI a) (nI b) = 0 ↔ okR a b v := by
  rw [ou_iff, nI_toInt (by omega), nI_toInt (by omega)]
  refine ⟨fun h => ?_, fun h => ?_⟩
  · obtain ⟨j, h1, h2, h3⟩ := nI_ex (b := b) (by omega) h.2
    subst h3
    rw [nI_toInt h2] at h
    exact ⟨j, by omega, by omega, rfl⟩
  · obtain ⟨j, h1, h2, rfl⟩ := h
    rw [nI_toInt (by omega)]
    omega
theorem np_iff {v : Int32} {n : Nat} (hn : n < 2 ^ 30) : (if v = -1 ∨ ouI v (nI 0) (nI n - nI 1) = 0 then nI 0 else nI 1) = 0 ↔ okP n v := by
  unfold okP okM
  rw [← ou_m hn]
  by_cases h : v = -1 ∨ ouI v (nI 0) (nI n - nI 1) = 0
  · rw [if_pos h]
    exact ⟨fun _ => h, fun _ => rfl⟩
  · rw [if_neg h]
    exact ⟨fun z => absurd z (by decide), fun z => absurd z h⟩
theorem okP_pl {v : Int32} {n : Nat} (hn : n ≤ 8) (h : okP n v) : isPl v (plN v) := by
  unfold plN
  rcases h with rfl | ⟨i, hi, rfl⟩
  · exact isPl_d
  · rw [if_neg (fun z => by
      have h1 : (nI i).toInt = (-1 : Int32).toInt := by rw [z]
      rw [nI_toInt (by omega), show (-1 : Int32).toInt = -1 by decide] at h1
      omega), cl_nI (by omega)]
    exact isPl_m (by omega)
/-- one slot sells: what is left, the coins, how many were sold, after k wishes -/
def slS (p lim s0 c0 : Int32) : Nat → Int32 × Int32 × Nat
  | 0 => (s0, c0, 0)
  | k + 1 => if 0 < (slS p lim s0 c0 k).1 ∧ (slS p lim s0 c0 k).2.1 + p ≤ lim then ((slS p lim s0 c0 k).1 - nI 1, (slS p lim s0 c0 k).2.1 + p, (slS p lim s0 c0 k).2.2 + 1) else slS p lim s0 c0 k
theorem slS_yes {p lim s0 c0 : Int32} {k : Nat} (h1 : 0 < (slS p lim s0 c0 k).1) (h2 : (slS p lim s0 c0 k).2.1 + p ≤ lim) : slS p lim s0 c0 (k + 1) = ((slS p lim s0 c0 k).1 - nI 1, (slS p lim s0 c0 k).2.1 + p, (slS p lim s0 c0 k).2.2 + 1) := if_pos ⟨h1, h2⟩
theorem slS_no {p lim s0 c0 : Int32} {k : Nat} (h : ¬ (0 < (slS p lim s0 c0 k).1 ∧ (slS p lim s0 c0 k).2.1 + p ≤ lim)) : slS p lim s0 c0 (k + 1) = slS p lim s0 c0 k := if_neg h
theorem slS_le (p lim s0 c0 : Int32) : ∀ k, (slS p lim s0 c0 k).2.2 ≤ k
  | 0 => Nat.le_refl 0
  | k + 1 => by
    have ih := slS_le p lim s0 c0 k
    by_cases h : 0 < (slS p lim s0 c0 k).1 ∧ (slS p lim s0 c0 k).2.1 + p ≤ lim
    · rw [slS_yes h.1 h.2]
      show (slS p lim s0 c0 k).2.2 + 1 ≤ k + 1
      omega
    · rw [slS_no h]
      omega
def slG (g : Nat → Nat → Int32) (i k : Nat) (x : Int32 × Int32 × Nat) : Nat → Nat → Int32 := va_up (va_up g 5 (upd (g 5) k x.1)) 1 (upd (g 1) i x.2.1)
theorem up_up {α : Type} (g : Nat → α) (k : Nat) (f f' : α) : va_up (va_up g k f) k f' = va_up g k f' := by
  funext z
  by_cases h : z = k
  · subst h; rw [up_eq, up_eq]
  · rw [up_ne h, up_ne h, up_ne h]
theorem up_sw {α : Type} (g : Nat → α) {k j : Nat} (h : k ≠ j) (f f' : α) : va_up (va_up g k f) j f' = va_up (va_up g j f') k f := by
  funext z
  by_cases h1 : z = k
  · subst h1; rw [up_eq, up_ne h, up_eq]
  · by_cases h2 : z = j
    · subst h2; rw [up_eq, up_ne h1, up_eq]
    · rw [up_ne h2, up_ne h1, up_ne h1, up_ne h2]
theorem up_id {g : Nat → Nat → Int32} {k : Nat} : va_up g k (g k) = g := by
  funext z
  by_cases h : z = k
  · subst h; rw [up_eq]
  · rw [up_ne h]
theorem upd_upd (f : Nat → Int32) (k : Nat) (x y : Int32) : upd (upd f k x) k y = upd f k y := by
  funext z
  by_cases h : z = k
  · subst h; rw [upd_eq, upd_eq]
  · rw [upd_ne h, upd_ne h, upd_ne h]
theorem upd_id (f : Nat → Int32) (k : Nat) : upd f k (f k) = f := by
  funext z
  by_cases h : z = k
  · subst h; rw [upd_eq]
  · rw [upd_ne h]
theorem slG_0 (g : Nat → Nat → Int32) (i k : Nat) : slG g i k (g 5 k, g 1 i, 0) = g := by
  unfold slG
  show va_up (va_up g 5 (upd (g 5) k (g 5 k))) 1 (upd (g 1) i (g 1 i)) = g
  rw [upd_id, upd_id, up_id, up_id]
theorem slG_5 (g : Nat → Nat → Int32) (i k : Nat) (x : Int32 × Int32 × Nat) : slG g i k x 5 = upd (g 5) k x.1 := by
  unfold slG
  rw [up_ne (by omega), up_eq]
theorem slG_1 (g : Nat → Nat → Int32) (i k : Nat) (x : Int32 × Int32 × Nat) : slG g i k x 1 = upd (g 1) i x.2.1 := up_eq
theorem slG_n (g : Nat → Nat → Int32) (i k : Nat) (x : Int32 × Int32 × Nat) {j : Nat} (h5 : j ≠ 5) (h1 : j ≠ 1) : slG g i k x j = g j := by
  unfold slG
  rw [up_ne h1, up_ne h5]
theorem slG_s (g : Nat → Nat → Int32) (i k : Nat) (x : Int32 × Int32 × Nat) (s c : Int32) (n : Nat) : va_up (va_up (slG g i k x) 5 (upd (slG g i k x 5) k s)) 1 (upd (va_up (slG g i k x) 5 (upd (slG g i k x 5) k s) 1) i c) = slG g i k (s, c, n) := by
  rw [up_ne (show 1 ≠ 5 by omega), slG_5, slG_1, upd_upd, upd_upd]
  unfold slG
  rw [up_sw (va_up g 5 (upd (g 5) k x.1)) (show 1 ≠ 5 by omega), up_up, up_up]
def cntF (g : Nat → Nat → Int32) (i k : Nat) : Nat := (slS (g 6 k) (g 0 i) (g 5 k) (g 1 i) (cl (g 7 k))).2.2
def sfG (g : Nat → Nat → Int32) (i k : Nat) : Nat → Nat → Int32 := slG g i k (slS (g 6 k) (g 0 i) (g 5 k) (g 1 i) (cl (g 7 k)))
/-- what a slot's day leaves -/
def sfF (g : Nat → Nat → Int32) (i k : Nat) : Nat → Nat → Int32 := va_up (va_up (sfG g i k) 8 (upd (g 8) k (g 8 k + nI (cntF g i k)))) 9 (upd (g 9) k (g 9 k + (g 7 k - nI (cntF g i k))))
theorem sfF_e (g : Nat → Nat → Int32) (i k : Nat) : va_up (va_up (sfG g i k) 8 (upd (sfG g i k 8) k (sfG g i k 8 k + nI (cntF g i k)))) 9 (upd (va_up (sfG g i k) 8 (upd (sfG g i k 8) k (sfG g i k 8 k + nI (cntF g i k))) 9) k (va_up (sfG g i k) 8 (upd (sfG g i k 8) k (sfG g i k 8 k + nI (cntF g i k))) 9 k + (va_up (sfG g i k) 8 (upd (sfG g i k 8) k (sfG g i k 8 k + nI (cntF g i k))) 7 k - nI (cntF g i k)))) = sfF g i k := by
  have e8 : sfG g i k 8 = g 8 := slG_n g i k _ (by omega) (by omega)
  have e9 : sfG g i k 9 = g 9 := slG_n g i k _ (by omega) (by omega)
  have e7 : sfG g i k 7 = g 7 := slG_n g i k _ (by omega) (by omega)
  rw [up_ne (show 9 ≠ 8 by omega), up_ne (show 7 ≠ 8 by omega), e8, e9, e7]
  rfl
theorem sfF_t (g : Nat → Nat → Int32) (i k : Nat) {j : Nat} (h5 : j ≠ 5) (h1 : j ≠ 1) (h8 : j ≠ 8) (h9 : j ≠ 9) : sfF g i k j = g j := by
  unfold sfF sfG
  rw [up_ne h9, up_ne h8, slG_n g i k _ h5 h1]
/-- the slots o, o + 1 .. o + j - 1 have sold -/
def so (g : Nat → Nat → Int32) (o : Nat) : Nat → (Nat → Nat → Int32) × Nat
  | 0 => (g, 0)
  | j + 1 => (sfF (so g o j).1 ((o + j) / 6) (o + j), (so g o j).2 + cntF (so g o j).1 ((o + j) / 6) (o + j))
theorem so_t (g : Nat → Nat → Int32) (o : Nat) {t : Nat} (h5 : t ≠ 5) (h1 : t ≠ 1) (h8 : t ≠ 8) (h9 : t ≠ 9) : ∀ j, (so g o j).1 t = g t
  | 0 => rfl
  | j + 1 => (sfF_t _ _ _ h5 h1 h8 h9).trans (so_t g o h5 h1 h8 h9 j)
theorem so_add (g : Nat → Nat → Int32) (o a : Nat) : ∀ b, so g o (a + b) = ((so (so g o a).1 (o + a) b).1, (so g o a).2 + (so (so g o a).1 (o + a) b).2)
  | 0 => rfl
  | b + 1 => by
    have ih := so_add g o a b
    show (sfF (so g o (a + b)).1 ((o + (a + b)) / 6) (o + (a + b)), (so g o (a + b)).2 + cntF (so g o (a + b)).1 ((o + (a + b)) / 6) (o + (a + b))) = _
    rw [ih, ← Nat.add_assoc o a b, Nat.add_assoc (so g o a).2]
    rfl
theorem cnt_le (g : Nat → Nat → Int32) (i k : Nat) : cntF g i k ≤ cl (g 7 k) := slS_le _ _ _ _ _
/-- the slots' numbers are as the calls leave them -/
def slInv (g : Nat → Nat → Int32) (n : Nat) : Prop := ∀ k, k < 6 * n → ∃ c s d, g 4 k = nI c ∧ g 5 k = nI s ∧ g 7 k = nI d ∧ s ≤ c ∧ c ≤ 30 ∧ d ≤ 20
def lkN (g : Nat → Nat → Int32) (k : Nat) : Nat := cl (g 4 k - g 5 k)
theorem lk_eq {g : Nat → Nat → Int32} {n k : Nat} (h : slInv g n) (hk : k < 6 * n) : g 4 k - g 5 k = nI (lkN g k) ∧ lkN g k ≤ 30 := by
  obtain ⟨c, s, d, h4, h5, -, hs, hc, -⟩ := h k hk
  unfold lkN
  rw [h4, h5, pk_sub hs, cl_nI (by omega)]
  exact ⟨rfl, by omega⟩
/-- machine i is filled from a load of L: its slots o .. -/
def fu (g : Nat → Nat → Int32) (i L : Nat) : Nat → (Nat → Nat → Int32) × Nat
  | 0 => (g, L)
  | j + 1 => (va_up (fu g i L j).1 5 (upd ((fu g i L j).1 5) (6 * i + j) ((fu g i L j).1 5 (6 * i + j) + nI (min (fu g i L j).2 (lkN (fu g i L j).1 (6 * i + j))))), (fu g i L j).2 - min (fu g i L j).2 (lkN (fu g i L j).1 (6 * i + j)))
theorem fu_le (g : Nat → Nat → Int32) (i L : Nat) : ∀ j, (fu g i L j).2 ≤ L
  | 0 => Nat.le_refl _
  | j + 1 => Nat.le_trans (Nat.sub_le _ _) (fu_le g i L j)
theorem fu_t (g : Nat → Nat → Int32) (i L : Nat) {t : Nat} (h5 : t ≠ 5) : ∀ j, (fu g i L j).1 t = g t
  | 0 => rfl
  | j + 1 => (up_ne h5).trans (fu_t g i L h5 j)
theorem fu_t1 (g : Nat → Nat → Int32) (i L j : Nat) {t : Nat} (h5 : t ≠ 5) : (fu g i L (j + 1)).1 t = (fu g i L j).1 t := by
  show va_up (fu g i L j).1 5 _ t = _
  exact up_ne h5
theorem fu_51 (g : Nat → Nat → Int32) (i L j : Nat) : (fu g i L (j + 1)).1 5 = upd ((fu g i L j).1 5) (6 * i + j) ((fu g i L j).1 5 (6 * i + j) + nI (min (fu g i L j).2 (lkN (fu g i L j).1 (6 * i + j)))) := by
  show va_up (fu g i L j).1 5 _ 5 = _
  exact up_eq
theorem fu_inv {g : Nat → Nat → Int32} {i L n : Nat} (h : slInv g n) (hi : i < n) : ∀ j, j ≤ 6 → slInv (fu g i L j).1 n
  | 0, _ => h
  | j + 1, hj => by
    have ih := fu_inv (L := L) h hi j (by omega)
    intro k hk
    obtain ⟨c, s, d, h4, h5, h7, hs, hc, hd⟩ := ih k hk
    by_cases hkj : k = 6 * i + j
    · subst hkj
      refine ⟨c, s + min (fu g i L j).2 (lkN (fu g i L j).1 (6 * i + j)), d, ?_, ?_, ?_, ?_, hc, hd⟩
      · rw [fu_t1 g i L j (show 4 ≠ 5 by omega), h4]
      · rw [fu_51, upd_eq, h5, nI_add]
      · rw [fu_t1 g i L j (show 7 ≠ 5 by omega), h7]
      · have e : lkN (fu g i L j).1 (6 * i + j) = c - s := by
          unfold lkN
          rw [h4, h5, pk_sub hs, cl_nI (by omega)]
        rw [e]
        omega
    · refine ⟨c, s, d, ?_, ?_, ?_, hs, hc, hd⟩
      · rw [fu_t1 g i L j (show 4 ≠ 5 by omega), h4]
      · rw [fu_51, upd_ne hkj, h5]
      · rw [fu_t1 g i L j (show 7 ≠ 5 by omega), h7]
theorem mn_nI {a b : Nat} (ha : a < 2 ^ 31) (hb : b < 2 ^ 31) : (if nI b < nI a then nI b else nI a) = nI (min a b) := by
  by_cases h : b < a
  · rw [if_pos (nI_lt h ha), Nat.min_eq_right (by omega)]
  · rw [if_neg (nI_nlt (by omega) hb), Nat.min_eq_left (by omega)]
theorem so_inv {g : Nat → Nat → Int32} {n : Nat} (h : slInv g n) (hs : ∀ (p lim s0 c0 : Int32) (k : Nat), ∀ s : Nat, s0 = nI s → s < 2 ^ 30 → ∃ s', (slS p lim s0 c0 k).1 = nI s' ∧ s' ≤ s) (o : Nat) : ∀ j, o + j ≤ 6 * n → slInv (so g o j).1 n
  | 0, _ => h
  | j + 1, hj => by
    have ih := so_inv h hs o j (by omega)
    intro k hk
    obtain ⟨c, s, d, h4, h5, h7, hsc, hc, hd⟩ := ih k hk
    have e4 : (so g o (j + 1)).1 4 = (so g o j).1 4 := by
      show sfF (so g o j).1 ((o + j) / 6) (o + j) 4 = _
      exact sfF_t _ _ _ (by omega) (by omega) (by omega) (by omega)
    have e7 : (so g o (j + 1)).1 7 = (so g o j).1 7 := by
      show sfF (so g o j).1 ((o + j) / 6) (o + j) 7 = _
      exact sfF_t _ _ _ (by omega) (by omega) (by omega) (by omega)
    have e5 : (so g o (j + 1)).1 5 = upd ((so g o j).1 5) (o + j) (slS ((so g o j).1 6 (o + j)) ((so g o j).1 0 ((o + j) / 6)) ((so g o j).1 5 (o + j)) ((so g o j).1 1 ((o + j) / 6)) (cl ((so g o j).1 7 (o + j)))).1 := by
      show sfF _ _ _ 5 = _
      unfold sfF sfG
      rw [up_ne (by omega), up_ne (by omega), slG_5]
    rw [e4, e5, e7]
    by_cases hkj : k = o + j
    · subst hkj
      rw [upd_eq]
      obtain ⟨s', h6, h8⟩ := hs ((so g o j).1 6 (o + j)) ((so g o j).1 0 ((o + j) / 6)) ((so g o j).1 5 (o + j)) ((so g o j).1 1 ((o + j) / 6)) (cl ((so g o j).1 7 (o + j))) s h5 (by omega)
      exact ⟨c, s', d, h4, h6, h7, by omega, hc, hd⟩
    · rw [upd_ne hkj]
      exact ⟨c, s, d, h4, h5, h7, hsc, hc, hd⟩
theorem slS_st (p lim s0 c0 : Int32) : ∀ (k s : Nat), s0 = nI s → s < 2 ^ 30 → ∃ s', (slS p lim s0 c0 k).1 = nI s' ∧ s' ≤ s
  | 0, s, h, _ => ⟨s, h, Nat.le_refl _⟩
  | k + 1, s, h, hs => by
    obtain ⟨s', h1, h2⟩ := slS_st p lim s0 c0 k s h hs
    by_cases hc : 0 < (slS p lim s0 c0 k).1 ∧ (slS p lim s0 c0 k).2.1 + p ≤ lim
    · rw [slS_yes hc.1 hc.2]
      have h3 : 0 < s' := by
        have := hc.1
        rw [h1, show (0 : Int32) = nI 0 from rfl, nI_ltI (by omega) (by omega)] at this
        exact this
      refine ⟨s' - 1, ?_, by omega⟩
      show (slS p lim s0 c0 k).1 - nI 1 = _
      rw [h1, pk_sub (by omega)]
    · rw [slS_no hc]
      exact ⟨s', h1, h2⟩
theorem sl_step {g g1 : Nat → Nat → Int32} {i k w : Nat} (hg1 : g1 = slG g i k (slS (g 6 k) (g 0 i) (g 5 k) (g 1 i) w)) (h1 : 0 < (slS (g 6 k) (g 0 i) (g 5 k) (g 1 i) w).1) (h2 : (slS (g 6 k) (g 0 i) (g 5 k) (g 1 i) w).2.1 + g 6 k ≤ g 0 i) : va_up (va_up g1 5 (upd (g1 5) k (g1 5 k - nI 1))) 1 (upd (va_up g1 5 (upd (g1 5) k (g1 5 k - nI 1)) 1) i (va_up g1 5 (upd (g1 5) k (g1 5 k - nI 1)) 1 i + va_up g1 5 (upd (g1 5) k (g1 5 k - nI 1)) 6 k)) = slG g i k (slS (g 6 k) (g 0 i) (g 5 k) (g 1 i) (w + 1)) := by
  generalize hX : slS (g 6 k) (g 0 i) (g 5 k) (g 1 i) w = X at hg1 h1 h2
  rw [slS_yes (by rw [hX]; exact h1) (by rw [hX]; exact h2), hX]
  have e1 : g1 1 i = X.2.1 := by rw [hg1, slG_1, upd_eq]
  have e5 : g1 5 k = X.1 := by rw [hg1, slG_5, upd_eq]
  have e6 : g1 6 k = g 6 k := by rw [hg1, slG_n g i k _ (by omega) (by omega)]
  have f1 : va_up g1 5 (upd (g1 5) k (g1 5 k - nI 1)) 1 i = X.2.1 := by rw [up_ne (by omega), e1]
  have f6 : va_up g1 5 (upd (g1 5) k (g1 5 k - nI 1)) 6 k = g 6 k := by rw [up_ne (by omega), e6]
  rw [f1, f6, e5, hg1]
  exact slG_s g i k X (X.1 - nI 1) (X.2.1 + g 6 k) (X.2.2 + 1)
theorem sl_end {g g1 g2 g3 : Nat → Nat → Int32} {i k d c : Nat} (hd : g 7 k = nI d) (hd2 : d ≤ 20) (hg1 : g1 = slG g i k (slS (g 6 k) (g 0 i) (g 5 k) (g 1 i) d)) (hc : c = (slS (g 6 k) (g 0 i) (g 5 k) (g 1 i) d).2.2) (hg2 : g2 = va_up g1 8 (upd (g1 8) k (g1 8 k + nI c))) (hg3 : g3 = va_up g2 9 (upd (g2 9) k (g2 9 k + (g2 7 k - nI c)))) : g3 = sfF g i k ∧ c = cntF g i k := by
  have e : cl (g 7 k) = d := by rw [hd, cl_nI (by omega)]
  have h1 : g1 = sfG g i k := by rw [hg1]; unfold sfG; rw [e]
  have h2 : c = cntF g i k := by rw [hc]; unfold cntF; rw [e]
  refine ⟨?_, h2⟩
  rw [hg3, hg2, h1, h2]
  exact sfF_e g i k
/-- a machine's box is emptied, it was visited -/
def svG (g : Nat → Nat → Int32) (i : Nat) : Nat → Nat → Int32 := va_up (va_up g 1 (upd (g 1) i (nI 0))) 2 (upd (va_up g 1 (upd (g 1) i (nI 0)) 2) i (va_up g 1 (upd (g 1) i (nI 0)) 2 i + nI 1))
theorem svG_t (g : Nat → Nat → Int32) (i : Nat) {t : Nat} (h1 : t ≠ 1) (h2 : t ≠ 2) : svG g i t = g t := by
  unfold svG
  rw [up_ne h2, up_ne h1]
def svT (tt : Nat → Int64) (c : Int32) (d : Nat) : Nat → Int64 := vp_updL (vp_updL tt 0 (tt 0 + c.toInt64)) 2 (vp_updL tt 0 (tt 0 + c.toInt64) 2 + (nI d).toInt64)
theorem inv_c {g g' : Nat → Nat → Int32} {n : Nat} (h : slInv g n) (h4 : g' 4 = g 4) (h5 : g' 5 = g 5) (h7 : g' 7 = g 7) : slInv g' n := by
  unfold slInv
  rw [h4, h5, h7]
  exact h
