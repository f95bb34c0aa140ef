/-! Rounds planned and driven, in plain words. -/
theorem so_s (g : Nat → Nat → Int32) (i : Nat) {j : Nat} (hj : j < 6) : so g (6 * i) (j + 1) = (sfF (so g (6 * i) j).1 i (6 * i + j), (so g (6 * i) j).2 + cntF (so g (6 * i) j).1 i (6 * i + j)) := by
  show (sfF (so g (6 * i) j).1 ((6 * i + j) / 6) (6 * i + j), (so g (6 * i) j).2 + cntF (so g (6 * i) j).1 ((6 * i + j) / 6) (6 * i + j)) = _
  rw [show (6 * i + j) / 6 = i by omega]
theorem so_m (g : Nat → Nat → Int32) (i : Nat) : so g 0 (6 * (i + 1)) = ((so (so g 0 (6 * i)).1 (6 * i) 6).1, (so g 0 (6 * i)).2 + (so (so g 0 (6 * i)).1 (6 * i) 6).2) := by
  rw [show 6 * (i + 1) = 6 * i + 6 by omega, so_add, Nat.zero_add]
theorem so_iv {g : Nat → Nat → Int32} {n : Nat} (h : slInv g n) (o j : Nat) (hj : o + j ≤ 6 * n) : slInv (so g o j).1 n := so_inv h (fun p lim s0 c0 k s => slS_st p lim s0 c0 k s) o j hj
/-- the minutes of a round through the set S, what it lacks, what it gains -/
def rtF (g : Nat → Nat → Int32) (S : Nat) : Int32 := tw (wy g) S 8 + selF S (vtF g) 8
def lkF (g : Nat → Nat → Int32) (S : Nat) : Int32 := selF S (lackF g) 8
def gnF (g : Nat → Nat → Int32) (S : Nat) : Int32 := selF S (gainF g) 8
theorem sv_wy {g g2 : Nat → Nat → Int32} {n : Nat} (h : svOK g g2 n) : wy g2 = wy g := wy_c (h.1 3 (by omega) (by omega) (by omega))
theorem sv_hw {g g2 : Nat → Nat → Int32} {n : Nat} (h : svOK g g2 n) (hW : hwAll g n) : hwAll g2 n := hwAll_c (h.1 3 (by omega) (by omega) (by omega)) (h.1 17 (by omega) (by omega) (by omega)) hW
theorem sv_rt {g g2 : Nat → Nat → Int32} {n S : Nat} (h : svOK g g2 n) (hS : S < 2 ^ n) : tw (wy g2) S 8 + selF S (g2 14) 8 = rtF g S := by
  rw [sv_wy h, selF_c (f' := vtF g) (fun m _ hb => (h.2 m (bit_n hS hb)).1)]
  rfl
theorem sv_lk {g g2 : Nat → Nat → Int32} {n S : Nat} (h : svOK g g2 n) (hS : S < 2 ^ n) : selF S (g2 15) 8 = lkF g S := selF_c (fun m _ hb => (h.2 m (bit_n hS hb)).2.1)
theorem sv_gn {g g2 : Nat → Nat → Int32} {n S : Nat} (h : svOK g g2 n) (hS : S < 2 ^ n) : selF S (g2 16) 8 = gnF g S := selF_c (fun m _ hb => (h.2 m (bit_n hS hb)).2.2)
/-- the best of the sets 1 .. k: the set, its gain, its minutes -/
def bsF (g : Nat → Nat → Int32) (lim load : Int32) : Nat → Nat × Int32 × Int32
  | 0 => (0, nI 0, nI 0)
  | k + 1 => if (rtF g (k + 1) ≤ lim ∧ lkF g (k + 1) ≤ load) ∧ ((bsF g lim load k).2.1 < gnF g (k + 1) ∨ (gnF g (k + 1) = (bsF g lim load k).2.1 ∧ rtF g (k + 1) < (bsF g lim load k).2.2)) then (k + 1, gnF g (k + 1), rtF g (k + 1)) else bsF g lim load k
theorem bs_yes {g : Nat → Nat → Int32} {lim load : Int32} {k : Nat} (h : (rtF g (k + 1) ≤ lim ∧ lkF g (k + 1) ≤ load) ∧ ((bsF g lim load k).2.1 < gnF g (k + 1) ∨ (gnF g (k + 1) = (bsF g lim load k).2.1 ∧ rtF g (k + 1) < (bsF g lim load k).2.2))) : bsF g lim load (k + 1) = (k + 1, gnF g (k + 1), rtF g (k + 1)) := if_pos h
theorem bs_no {g : Nat → Nat → Int32} {lim load : Int32} {k : Nat} (h : ¬ ((rtF g (k + 1) ≤ lim ∧ lkF g (k + 1) ≤ load) ∧ ((bsF g lim load k).2.1 < gnF g (k + 1) ∨ (gnF g (k + 1) = (bsF g lim load k).2.1 ∧ rtF g (k + 1) < (bsF g lim load k).2.2)))) : bsF g lim load (k + 1) = bsF g lim load k := if_neg h
theorem bs_le (g : Nat → Nat → Int32) (lim load : Int32) : ∀ k, (bsF g lim load k).1 ≤ k
  | 0 => Nat.le_refl 0
  | k + 1 => by
    have ih := bs_le g lim load k
    by_cases h : (rtF g (k + 1) ≤ lim ∧ lkF g (k + 1) ≤ load) ∧ ((bsF g lim load k).2.1 < gnF g (k + 1) ∨ (gnF g (k + 1) = (bsF g lim load k).2.1 ∧ rtF g (k + 1) < (bsF g lim load k).2.2))
    · rw [bs_yes h]
      exact Nat.le_refl _
    · rw [bs_no h]
      omega
/-- one machine served: its box brought home, a visit, filled -/
def svF (g : Nat → Nat → Int32) (tt : Nat → Int64) (i L : Nat) : (Nat → Nat → Int32) × (Nat → Int64) × Nat := ((fu (svG g i) i L 6).1, svT tt (g 1 i) (L - (fu (svG g i) i L 6).2), (fu (svG g i) i L 6).2)
/-- a round after k machines: the numbers, the totals, the load that is left -/
def goS (w : Nat → Nat → Int32) (S : Nat) (g : Nat → Nat → Int32) (tt : Nat → Int64) (L : Nat) : Nat → (Nat → Nat → Int32) × (Nat → Int64) × Nat
  | 0 => (g, tt, L)
  | k + 1 => svF (goS w S g tt L k).1 (goS w S g tt L k).2.1 (vs w S (k + 1)).2 (goS w S g tt L k).2.2
theorem svF_le (g : Nat → Nat → Int32) (tt : Nat → Int64) (i L : Nat) : (svF g tt i L).2.2 ≤ L := fu_le _ _ _ _
theorem goS_le (w : Nat → Nat → Int32) (S : Nat) (g : Nat → Nat → Int32) (tt : Nat → Int64) (L : Nat) : ∀ k, (goS w S g tt L k).2.2 ≤ L
  | 0 => Nat.le_refl _
  | k + 1 => Nat.le_trans (svF_le _ _ _ _) (goS_le w S g tt L k)
theorem svF_t (g : Nat → Nat → Int32) (tt : Nat → Int64) (i L : Nat) {t : Nat} (h1 : t ≠ 1) (h2 : t ≠ 2) (h5 : t ≠ 5) : (svF g tt i L).1 t = g t := (fu_t _ _ _ h5 6).trans (svG_t g i h1 h2)
theorem goS_t (w : Nat → Nat → Int32) (S : Nat) (g : Nat → Nat → Int32) (tt : Nat → Int64) (L : Nat) {t : Nat} (h1 : t ≠ 1) (h2 : t ≠ 2) (h5 : t ≠ 5) : ∀ k, (goS w S g tt L k).1 t = g t
  | 0 => rfl
  | k + 1 => (svF_t _ _ _ _ h1 h2 h5).trans (goS_t w S g tt L h1 h2 h5 k)
theorem svF_iv {g : Nat → Nat → Int32} {n i : Nat} (tt : Nat → Int64) (L : Nat) (h : slInv g n) (hi : i < n) : slInv (svF g tt i L).1 n :=
  fu_inv (inv_c h (svG_t g i (by omega) (by omega)) (svG_t g i (by omega) (by omega)) (svG_t g i (by omega) (by omega))) hi 6 (Nat.le_refl _)
theorem goS_iv {w : Nat → Nat → Int32} {S n : Nat} {g : Nat → Nat → Int32} (tt : Nat → Int64) (L : Nat) (hn : n ≤ 8) (hS : S < 2 ^ n) (h : slInv g n) : ∀ k, k ≤ bc S → slInv (goS w S g tt L k).1 n
  | 0, _ => h
  | k + 1, hk => svF_iv _ _ (goS_iv tt L hn hS h k (by omega)) (vs_next w hn hS (by omega)).2.2.1
theorem mn_le {a b : Nat} : min a b ≤ a := Nat.min_le_left a b
