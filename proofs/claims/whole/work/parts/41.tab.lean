/-! The table of what is left of a round, in plain words. -/
def tbF (base : Int32) (f : Nat → Int32) (S : Nat) : Nat → Int32
  | 0 => base
  | k + 1 => if S.testBit k then mnI (tbF base f S k) (f k) else tbF base f S k
theorem tb_yes {base : Int32} {f : Nat → Int32} {S k : Nat} (h : S.testBit k = true) : tbF base f S (k + 1) = mnI (tbF base f S k) (f k) := if_pos h
theorem tb_no {base : Int32} {f : Nat → Int32} {S k : Nat} (h : ¬ S.testBit k = true) : tbF base f S (k + 1) = tbF base f S k := if_neg h
theorem le_max (v : Int32) : ¬ nI 2147483647 < v := fun z => by
  rw [i_lt, nI_toInt (by omega)] at z
  have := v.toInt_lt
  omega
theorem mn_max (v : Int32) : mnI (nI 2147483647) v = v := by
  unfold mnI
  by_cases h : v < nI 2147483647
  · rw [if_pos h]
  · rw [if_neg h]
    have h2 := le_max v
    rw [i_lt] at h h2
    exact (i_eq _ _).mpr (by omega)
theorem tb_am (f : Nat → Int32) (S : Nat) : ∀ k, tbF (nI 2147483647) f S k = ((am f S k).map Prod.snd).getD (nI 2147483647)
  | 0 => rfl
  | k + 1 => by
    have ih := tb_am f S k
    by_cases hb : S.testBit k = true
    · rw [tb_yes hb, ih, am, if_pos hb]
      cases am f S k with
      | none => exact mn_max (f k)
      | some y =>
        show mnI y.2 (f k) = _
        unfold mnI
        by_cases h : f k < y.2
        · rw [if_pos h]
          simp [h]
        · rw [if_neg h]
          simp [h]
    · rw [tb_no hb, ih, am, if_neg hb]
theorem tb_tw (w : Nat → Nat → Int32) {S : Nat} (a : Nat) (hS : S < 256) (h0 : S ≠ 0) : tbF (nI 2147483647) (fun m => w a m + tw w (S - 2 ^ m) m) S 8 = tw w S a := by
  obtain ⟨m, hm, hb⟩ := bit_ex S hS h0
  obtain ⟨y, hy⟩ := am_some (f := fun m => w a m + tw w (S - 2 ^ m) m) hb hm
  rw [tb_am, tw_ne w a h0]
  unfold amV
  rw [hy]
  rfl
theorem tb_0 (base : Int32) (f : Nat → Int32) : ∀ k, tbF base f 0 k = base
  | 0 => rfl
  | k + 1 => by rw [tb_no (by rw [Nat.zero_testBit]; decide), tb_0 base f k]
theorem tb_c {base : Int32} {f f' : Nat → Int32} {S : Nat} : ∀ {k : Nat}, (∀ m, m < k → S.testBit m = true → f m = f' m) → tbF base f S k = tbF base f' S k
  | 0, _ => rfl
  | k + 1, h => by
    have ih := tb_c (base := base) (k := k) (fun m hm hb => h m (Nat.lt_succ_of_lt hm) hb)
    by_cases hb : S.testBit k = true
    · rw [tb_yes hb, tb_yes hb, ih, h k (Nat.lt_succ_self k) hb]
    · rw [tb_no hb, tb_no hb, ih]
/-- the table is right for the set S -/
def rsOK (g : Nat → Nat → Int32) (S : Nat) : Prop := ∀ a, a ≤ 8 → g 22 (9 * S + a) = tw (wy g) S a
def rsAll (g : Nat → Nat → Int32) (most : Nat) : Prop := ∀ S, S ≤ most → rsOK g S
