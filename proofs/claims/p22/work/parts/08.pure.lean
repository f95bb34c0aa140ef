/-! Plain mathematics: sums, the least way through a set of machines, bits. -/
def sumFrom (b : Int32) (f : Nat → Int32) : Nat → Int32
  | 0 => b
  | k + 1 => sumFrom b f k + f k
def lackF (g : Nat → Nat → Int32) (i : Nat) : Int32 := sumFrom (nI 0) (fun j => g 4 (6 * i + j) - g 5 (6 * i + j)) 6
def gainF (g : Nat → Nat → Int32) (i : Nat) : Int32 := sumFrom (g 1 i) (fun j => g 6 (6 * i + j) * (g 4 (6 * i + j) - g 5 (6 * i + j))) 6
def vtF (g : Nat → Nat → Int32) (i : Nat) : Int32 := nI 3 + (lackF g i + nI 4) / nI 5
def machF (g : Nat → Nat → Int32) (i : Nat) : Nat → Int32
  | 0 => g 1 i
  | 1 => g 0 i
  | 2 => lackF g i
  | 3 => gainF g i
  | _ => g 2 i
/-- the chosen members' sum -/
def selF (S : Nat) (f : Nat → Int32) (k : Nat) : Int32 := sumFrom (nI 0) (fun m => if S.testBit m then f m else nI 0) k
def wy (g : Nat → Nat → Int32) (a b : Nat) : Int32 := g 3 (9 * a + b)
def plI (a : Nat) : Int32 := if a = 8 then -1 else nI a
/-- the first member with the least value -/
def am (f : Nat → Int32) (S : Nat) : Nat → Option (Nat × Int32)
  | 0 => none
  | k + 1 => if S.testBit k then (match am f S k with
    | none => some (k, f k)
    | some y => if f k < y.2 then some (k, f k) else some y) else am f S k
def amV (f : Nat → Int32) (S : Nat) : Int32 := ((am f S 8).map Prod.snd).getD 0
def amI (f : Nat → Int32) (S : Nat) : Nat := ((am f S 8).map Prod.fst).getD 8
def twF (w : Nat → Nat → Int32) : Nat → Nat → Nat → Int32
  | 0, _, _ => 0
  | F + 1, S, a => if S = 0 then w a 8 else amV (fun m => w a m + twF w F (S - 2 ^ m) m) S
/-- the least minutes from place a through the set S to the depot -/
def tw (w : Nat → Nat → Int32) (S a : Nat) : Int32 := twF w (S + 1) S a
/-- the next machine of a round -/
def nx (w : Nat → Nat → Int32) (S a : Nat) : Nat := amI (fun m => w a m + tw w (S - 2 ^ m) m) S
def bc (S : Nat) : Nat := ((List.range 8).filter (fun m => S.testBit m)).length
theorem i_lt (a b : Int32) : a < b ↔ a.toInt < b.toInt := Int32.lt_iff_toInt_lt
theorem i_le (a b : Int32) : a ≤ b ↔ a.toInt ≤ b.toInt := Int32.le_iff_toInt_le
theorem i_eq (a b : Int32) : a = b ↔ a.toInt = b.toInt := ⟨fun h => by rw [h], fun h => Int32.toInt_inj.mp h⟩
theorem am_congr {f f' : Nat → Int32} {S : Nat} : ∀ {k : Nat}, (∀ m, m < k → S.testBit m = true → f m = f' m) → am f S k = am f' S k
  | 0, _ => rfl
  | k + 1, h => by
    have ih := am_congr (k := k) (fun m hm hb => h m (Nat.lt_succ_of_lt hm) hb)
    rw [am, am, ih]
    by_cases hb : S.testBit k = true
    · rw [h k (Nat.lt_succ_self k) hb]
    · rw [if_neg hb, if_neg hb]
theorem am_some {f : Nat → Int32} {S m : Nat} (hb : S.testBit m = true) : ∀ {k : Nat}, m < k → ∃ y, am f S k = some y
  | 0, h => absurd h (Nat.not_lt_zero _)
  | k + 1, h => by
    rw [am]
    by_cases hk : S.testBit k = true
    · rw [if_pos hk]
      cases am f S k with
      | none => exact ⟨_, rfl⟩
      | some y =>
        by_cases hc : f k < y.2
        · exact ⟨_, if_pos hc⟩
        · exact ⟨_, if_neg hc⟩
    · rw [if_neg hk]
      refine am_some hb ?_
      rcases Nat.lt_or_ge m k with q | q
      · exact q
      · have e : m = k := by omega
        subst e
        exact absurd hb hk
theorem am_spec {f : Nat → Int32} {S : Nat} : ∀ {k i : Nat} {y : Int32}, am f S k = some (i, y) → i < k ∧ S.testBit i = true ∧ f i = y ∧ (∀ j, j < k → S.testBit j = true → ¬ f j < y) ∧ ∀ j, j < i → S.testBit j = true → y < f j
  | 0, _, _, h => by simp [am] at h
  | k + 1, i, y, h => by
    rw [am] at h
    by_cases hk : S.testBit k = true
    · rw [if_pos hk] at h
      cases hm : am f S k with
      | none =>
        rw [hm] at h
        simp only [Option.some.injEq, Prod.mk.injEq] at h
        obtain ⟨rfl, rfl⟩ := h
        have no : ∀ j, j < k → ¬ S.testBit j = true := fun j hj hb => by
          obtain ⟨z, hz⟩ := am_some (f := f) hb hj
          rw [hm] at hz
          cases hz
        refine ⟨Nat.lt_succ_self k, hk, rfl, fun j hj hb => ?_, fun j hj hb => absurd hb (no j hj)⟩
        rcases Nat.lt_or_ge j k with q | q
        · exact absurd hb (no j q)
        · have e : j = k := by omega
          subst e
          rw [i_lt]
          omega
      | some z =>
        obtain ⟨i0, y0⟩ := z
        obtain ⟨h1, h2, h3, h4, h5⟩ := am_spec hm
        rw [hm] at h
        simp only at h
        by_cases hc : f k < y0
        · rw [if_pos hc] at h
          simp only [Option.some.injEq, Prod.mk.injEq] at h
          obtain ⟨rfl, rfl⟩ := h
          refine ⟨Nat.lt_succ_self k, hk, rfl, fun j hj hb => ?_, fun j hj hb => ?_⟩
          · rcases Nat.lt_or_ge j k with q | q
            · have := h4 j q hb
              rw [i_lt] at this hc ⊢
              omega
            · have e : j = k := by omega
              subst e
              rw [i_lt]
              omega
          · have := h4 j hj hb
            rw [i_lt] at this hc ⊢
            omega
        · rw [if_neg hc] at h
          simp only [Option.some.injEq, Prod.mk.injEq] at h
          obtain ⟨rfl, rfl⟩ := h
          refine ⟨Nat.lt_succ_of_lt h1, h2, h3, fun j hj hb => ?_, h5⟩
          rcases Nat.lt_or_ge j k with q | q
          · exact h4 j q hb
          · have e : j = k := by omega
            subst e
            exact hc
    · rw [if_neg hk] at h
      obtain ⟨h1, h2, h3, h4, h5⟩ := am_spec h
      refine ⟨Nat.lt_succ_of_lt h1, h2, h3, fun j hj hb => ?_, h5⟩
      rcases Nat.lt_or_ge j k with q | q
      · exact h4 j q hb
      · have e : j = k := by omega
        subst e
        exact absurd hb hk
theorem bit_ex : ∀ S, S < 256 → S ≠ 0 → ∃ m, m < 8 ∧ S.testBit m = true := by decide +kernel
theorem bit_le {S m : Nat} (h : S.testBit m = true) : 2 ^ m ≤ S := Nat.ge_two_pow_of_testBit h
theorem twF_eq (w : Nat → Nat → Int32) : ∀ (F F' S a : Nat), S < F → S < F' → twF w F S a = twF w F' S a
  | 0, _, _, _, h, _ => absurd h (Nat.not_lt_zero _)
  | _ + 1, 0, _, _, _, h => absurd h (Nat.not_lt_zero _)
  | F + 1, F' + 1, S, a, h, h' => by
    rw [twF, twF]
    by_cases h0 : S = 0
    · rw [if_pos h0, if_pos h0]
    · rw [if_neg h0, if_neg h0]
      unfold amV
      rw [am_congr (f' := fun m => w a m + twF w F' (S - 2 ^ m) m) (fun m _ hb => ?_)]
      have h2 := bit_le hb
      have h3 : 0 < 2 ^ m := Nat.two_pow_pos m
      show w a m + _ = w a m + _
      rw [twF_eq w F F' (S - 2 ^ m) m (by omega) (by omega)]
theorem tw_0 (w : Nat → Nat → Int32) (a : Nat) : tw w 0 a = w a 8 := by simp [tw, twF]
theorem tw_ne (w : Nat → Nat → Int32) {S : Nat} (a : Nat) (h0 : S ≠ 0) : tw w S a = amV (fun m => w a m + tw w (S - 2 ^ m) m) S := by
  unfold tw
  rw [twF, if_neg h0]
  unfold amV
  rw [am_congr (f' := fun m => w a m + twF w (S - 2 ^ m + 1) (S - 2 ^ m) m) (fun m _ hb => ?_)]
  have h2 := bit_le hb
  have h3 : 0 < 2 ^ m := Nat.two_pow_pos m
  show w a m + _ = w a m + _
  rw [twF_eq w S (S - 2 ^ m + 1) (S - 2 ^ m) m (by omega) (by omega)]
theorem nx_spec (w : Nat → Nat → Int32) {S : Nat} (a : Nat) (h : S < 256) (h0 : S ≠ 0) : nx w S a < 8 ∧ S.testBit (nx w S a) = true ∧ w a (nx w S a) + tw w (S - 2 ^ nx w S a) (nx w S a) = tw w S a ∧ ∀ j, j < nx w S a → S.testBit j = true → ¬ w a j + tw w (S - 2 ^ j) j = tw w S a := by
  obtain ⟨m, hm, hb⟩ := bit_ex S h h0
  obtain ⟨⟨i, y⟩, hy⟩ := am_some (f := fun m => w a m + tw w (S - 2 ^ m) m) hb hm
  obtain ⟨h1, h2, h3, h4, h5⟩ := am_spec hy
  have e1 : nx w S a = i := by unfold nx amI; rw [hy]; rfl
  have e2 : tw w S a = y := by rw [tw_ne w a h0]; unfold amV; rw [hy]; rfl
  rw [e1, e2]
  refine ⟨h1, h2, h3, fun j hj hbj hc => ?_⟩
  have t : y < w a j + tw w (S - 2 ^ j) j := h5 j hj hbj
  rw [i_lt] at t
  rw [i_eq] at hc
  omega
theorem p_bit : ∀ S, S < 256 → ∀ m, m < 8 → ((nI S >>> (nI m &&& 31)) &&& nI 1 = if S.testBit m then nI 1 else nI 0) := by decide +kernel
theorem p_wo : ∀ S, S < 256 → ∀ m, m < 8 → S.testBit m = true → nI S &&& ((nI 1 <<< (nI m &&& 31)) ^^^ (-1)) = nI (S - 2 ^ m) := by decide +kernel
theorem p_sub : ∀ S, S < 256 → ∀ m, m < 8 → S.testBit m = true → (S - 2 ^ m).testBit m = false ∧ bc S = bc (S - 2 ^ m) + 1 := by decide +kernel
theorem p_bc0 : ∀ S, S < 256 → bc S = 0 → S = 0 := by decide +kernel
theorem p_pw : ∀ n, n < 9 → (nI 1 <<< (nI n &&& 31)) = nI (2 ^ n) := by decide +kernel
theorem p_sub_bit : ∀ S, S < 256 → ∀ m, m < 8 → S.testBit m = true → ∀ j, j < 8 → (S - 2 ^ m).testBit j = true → S.testBit j = true := by decide +kernel
theorem bit_n {S n m : Nat} (h : S < 2 ^ n) (hb : S.testBit m = true) : m < n := by
  rcases Nat.lt_or_ge m n with q | q
  · exact q
  · have h1 := bit_le hb
    have h2 := Nat.pow_le_pow_right (n := 2) (by omega) q
    omega
theorem pow256 {n : Nat} (h : n ≤ 8) : 2 ^ n ≤ 256 := Nat.pow_le_pow_right (n := 2) (by omega) h
theorem xpm_pl {a b : Nat} (ha : a ≤ 8) (hb : b ≤ 8) : xpm ((a + 1) % 9 * 9 + (b + 1) % 9) = 9 * a + b := by
  unfold xpm
  have h1 : ((a + 1) % 9 * 9 + (b + 1) % 9) / 9 = (a + 1) % 9 := by omega
  have h2 : ((a + 1) % 9 * 9 + (b + 1) % 9) % 9 = (b + 1) % 9 := by omega
  rw [h1, h2]
  omega
theorem pl_1 : ∀ a, a < 9 → plI a + nI 1 = nI ((a + 1) % 9) := by decide +kernel
def ouI (v lo hi : Int32) : Int32 := if v < lo ∨ ¬ v ≤ hi then nI 1 else nI 0
theorem ou_iff (v lo hi : Int32) : ouI v lo hi = 0 ↔ lo.toInt ≤ v.toInt ∧ v.toInt ≤ hi.toInt := by
  unfold ouI
  by_cases h : v < lo ∨ ¬ v ≤ hi
  · rw [if_pos h]
    refine ⟨fun z => absurd z (by decide), fun z => ?_⟩
    rw [i_lt, i_le] at h
    omega
  · rw [if_neg h]
    refine ⟨fun _ => ?_, fun _ => rfl⟩
    rw [i_lt, i_le] at h
    omega
theorem nI_inj {a b : Nat} (ha : a < 2 ^ 31) (hb : b < 2 ^ 31) (h : nI a = nI b) : a = b := (nI_eq ha hb).mp h
theorem nI_ex {v : Int32} {b : Int} (h0 : 0 ≤ v.toInt) (h : v.toInt ≤ b) : ∃ i : Nat, (i : Int) ≤ b ∧ i < 2 ^ 31 ∧ v = nI i := by
  obtain ⟨j, hj, rfl⟩ := nI_of (x := v) (by rw [i_lt]; show ¬ v.toInt < 0; omega)
  rw [nI_toInt hj] at h
  exact ⟨j, h, hj, rfl⟩
theorem ou_k {v : Int32} {k : Nat} (hk : k < 2 ^ 30) : ouI v (nI 0) (nI k) = 0 ↔ ∃ j, j ≤ k ∧ v = nI j := by
  rw [ou_iff, nI_toInt (by omega), nI_toInt (by omega)]
  refine ⟨fun h => ?_, fun h => ?_⟩
  · obtain ⟨j, h1, -, h3⟩ := nI_ex h.1 h.2
    exact ⟨j, by omega, h3⟩
  · obtain ⟨j, h1, rfl⟩ := h
    rw [nI_toInt (by omega)]
    omega
theorem ou_m {v : Int32} {n : Nat} (hn : n < 2 ^ 30) : ouI v (nI 0) (nI n - nI 1) = 0 ↔ ∃ i, i < n ∧ v = nI i := by
  rw [ou_iff, nI_toInt (by omega), pk_sub_toInt hn (by omega)]
  refine ⟨fun h => ?_, fun h => ?_⟩
  · obtain ⟨j, h1, -, h3⟩ := nI_ex h.1 h.2
    exact ⟨j, by omega, h3⟩
  · obtain ⟨j, h1, rfl⟩ := h
    rw [nI_toInt (by omega)]
    omega
/-- a place, the depot or a machine, as the class tells it -/
def isPl (a : Int32) (pa : Nat) : Prop := pa ≤ 8 ∧ a + nI 1 = nI ((pa + 1) % 9)
theorem isPl_d : isPl (-1) 8 := ⟨by omega, by decide⟩
theorem isPl_m {m : Nat} (h : m < 8) : isPl (nI m) m := ⟨by omega, by rw [nI_add, show (m + 1) % 9 = m + 1 by omega]⟩
theorem pl_ix {a b : Int32} {pa pb : Nat} (ha : isPl a pa) (hb : isPl b pb) : (nI ((pa + 1) % 9 * 9) + b) + nI 1 = nI ((pa + 1) % 9 * 9 + (pb + 1) % 9) := by
  rw [Int32.add_assoc, hb.2, nI_add]
def amN (f : Nat → Int32) (S k : Nat) : Int32 := match am f S k with
  | none => -1
  | some y => nI y.1
def amL (f : Nat → Int32) (S k : Nat) : Int32 := match am f S k with
  | none => nI 0
  | some y => y.2
theorem amS_no {f : Nat → Int32} {S k : Nat} (h : ¬ S.testBit k = true) : amN f S (k + 1) = amN f S k ∧ amL f S (k + 1) = amL f S k := by
  have e : am f S (k + 1) = am f S k := by rw [am, if_neg h]
  unfold amN amL
  rw [e]
  exact ⟨rfl, rfl⟩
theorem amN_none {f : Nat → Int32} {S k : Nat} (hk : k ≤ 8) : amN f S k = -1 ↔ am f S k = none := by
  unfold amN
  cases h : am f S k with
  | none => exact ⟨fun _ => rfl, fun _ => rfl⟩
  | some y =>
    obtain ⟨i, z⟩ := y
    have h1 := (am_spec h).1
    refine ⟨fun q => ?_, fun q => by cases q⟩
    have h2 : (nI i).toInt = (-1 : Int32).toInt := by
      have q' : nI i = -1 := q
      rw [q']
    rw [nI_toInt (by omega)] at h2
    have h3 : (-1 : Int32).toInt = -1 := by decide
    omega
theorem amS_up {f : Nat → Int32} {S k : Nat} (hk : k ≤ 8) (h : S.testBit k = true) (hc : amN f S k = -1 ∨ f k < amL f S k) : amN f S (k + 1) = nI k ∧ amL f S (k + 1) = f k := by
  have e : am f S (k + 1) = some (k, f k) := by
    rw [am, if_pos h]
    cases hm : am f S k with
    | none => rfl
    | some y =>
      rcases hc with q | q
      · rw [amN_none hk, hm] at q
        cases q
      · unfold amL at q
        rw [hm] at q
        exact if_pos q
  unfold amN amL
  rw [e]
  exact ⟨rfl, rfl⟩
theorem amS_keep {f : Nat → Int32} {S k : Nat} (hk : k ≤ 8) (h : S.testBit k = true) (h1 : ¬ amN f S k = -1) (h2 : ¬ f k < amL f S k) : amN f S (k + 1) = amN f S k ∧ amL f S (k + 1) = amL f S k := by
  rw [amN_none hk] at h1
  cases hm : am f S k with
  | none => exact absurd hm h1
  | some y =>
    have e : am f S (k + 1) = some y := by
      rw [am, if_pos h, hm]
      unfold amL at h2
      rw [hm] at h2
      exact if_neg h2
    unfold amN amL
    rw [e, hm]
    exact ⟨rfl, rfl⟩
theorem amN_nx (w : Nat → Nat → Int32) {S : Nat} (a : Nat) (h : S < 256) (h0 : S ≠ 0) : amN (fun m => w a m + tw w (S - 2 ^ m) m) S 8 = nI (nx w S a) := by
  obtain ⟨m, hm, hb⟩ := bit_ex S h h0
  obtain ⟨y, hy⟩ := am_some (f := fun m => w a m + tw w (S - 2 ^ m) m) hb hm
  unfold amN nx amI
  rw [hy]
  rfl
theorem selF_no {S k : Nat} {f : Nat → Int32} (h : ¬ S.testBit k = true) : selF S f (k + 1) = selF S f k := by
  show sumFrom (nI 0) (fun m => if S.testBit m then f m else nI 0) k + (if S.testBit k then f k else nI 0) = _
  rw [if_neg h]
  exact Int32.add_zero _
theorem selF_yes {S k : Nat} {f : Nat → Int32} (h : S.testBit k = true) : selF S f (k + 1) = selF S f k + f k := by
  show sumFrom (nI 0) (fun m => if S.testBit m then f m else nI 0) k + (if S.testBit k then f k else nI 0) = _
  rw [if_pos h]
  rfl
/-- the ways home that are kept are right for the set S -/
def hwOK (g : Nat → Nat → Int32) (S : Nat) : Prop := ∀ m, m < 8 → S.testBit m = true → g 17 (S * 8 + m) = tw (wy g) (S - 2 ^ m) m
def mixF (d : Int64) (f : Nat → Int64) : Nat → Int64
  | 0 => d
  | k + 1 => mixF d f k * 31 + f k
def mixS (g : Nat → Nat → Int32) (i : Nat) (d : Int64) : Nat → Int64
  | 0 => d
  | k + 1 => mixF (mixS g i d k) (fun w => (g (4 + w) (6 * i + k)).toInt64) 6
theorem nI_toNat (v : Int32) : nI v.toBitVec.toNat = v := by
  apply Int32.toBitVec_inj.mp
  show BitVec.ofNat 32 v.toBitVec.toNat = v.toBitVec
  simp
theorem rs_iff {v : Int32} {n : Nat} (hn : n ≤ 8) : (v.toUInt32 >>> ((nI n).toUInt32 &&& Int32.toUInt32 31)).toInt32 = 0 ↔ ∃ S, S < 2 ^ n ∧ v = nI S := by
  have hs : (((nI n).toUInt32 &&& Int32.toUInt32 31).toBitVec % 32).toNat = n := (show ∀ n, n < 9 → (((nI n).toUInt32 &&& Int32.toUInt32 31).toBitVec % 32).toNat = n by decide +kernel) n (by omega)
  have h := pk_ushr v (nI n) n hs
  have h2 : 0 < 2 ^ n := Nat.two_pow_pos n
  refine ⟨fun z => ⟨v.toBitVec.toNat, ?_, (nI_toNat v).symm⟩, fun z => ?_⟩
  · rw [z] at h
    have h3 : (0 : Int32).toBitVec.toNat = 0 := by decide
    rw [h3] at h
    exact (Nat.div_eq_zero_iff_lt h2).mp h.symm
  · obtain ⟨S, hS, rfl⟩ := z
    have h4 := pow256 hn
    rw [pk_tn (by omega), (Nat.div_eq_zero_iff_lt h2).mpr hS] at h
    rw [← nI_toNat ((nI S).toUInt32 >>> ((nI n).toUInt32 &&& Int32.toUInt32 31)).toInt32, h]
    rfl
