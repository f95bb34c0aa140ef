/-! What the calls answer, in plain words: both sides are held against these. -/
abbrev cl (v : Int32) : Nat := v.toNatClampNeg
def okM (n : Nat) (v : Int32) : Prop := ∃ i, i < n ∧ v = nI i
def okS (n : Nat) (v w : Int32) : Prop := ∃ i j, i < n ∧ j < 6 ∧ v = nI i ∧ w = nI j
def okT (n : Nat) (v : Int32) : Prop := ∃ S, S < 2 ^ n ∧ v = nI S
def okK (k : Nat) (v : Int32) : Prop := ∃ j, j ≤ k ∧ v = nI j
def okV (v x : Int32) : Prop := ∃ j, j < bc (cl v) ∧ x = nI j
def hwAll (g : Nat → Nat → Int32) (n : Nat) : Prop := ∀ S, S < 2 ^ n → hwOK g S
/-- what is left, and where it stands, after k machines of a round -/
def vs (w : Nat → Nat → Int32) (S : Nat) : Nat → Nat × Nat
  | 0 => (S, 8)
  | k + 1 => ((vs w S k).1 - 2 ^ nx w (vs w S k).1 (vs w S k).2, nx w (vs w S k).1 (vs w S k).2)
theorem vs_ok (w : Nat → Nat → Int32) {S n : Nat} (hn : n ≤ 8) (hS : S < 2 ^ n) : ∀ k, k ≤ bc S → (vs w S k).1 ≤ S ∧ bc (vs w S k).1 + k = bc S
  | 0, _ => ⟨Nat.le_refl _, rfl⟩
  | k + 1, h => by
    obtain ⟨h1, h2⟩ := vs_ok w hn hS k (by omega)
    have hp := pow256 hn
    have h0 : (vs w S k).1 ≠ 0 := fun z => by
      rw [z] at h2
      have : bc 0 = 0 := by decide
      omega
    obtain ⟨n1, n2, -, -⟩ := nx_spec w (vs w S k).2 (S := (vs w S k).1) (by omega) h0
    have h3 := (p_sub (vs w S k).1 (by omega) _ n1 n2).2
    refine ⟨?_, ?_⟩
    · exact Nat.le_trans (Nat.sub_le _ _) h1
    · show bc ((vs w S k).1 - _) + (k + 1) = bc S
      omega
theorem vs_next (w : Nat → Nat → Int32) {S n k : Nat} (hn : n ≤ 8) (hS : S < 2 ^ n) (hk : k < bc S) : (vs w S k).1 < 2 ^ n ∧ (vs w S k).1 ≠ 0 ∧ (vs w S (k + 1)).2 < n ∧ (vs w S k).1.testBit (vs w S (k + 1)).2 = true := by
  obtain ⟨h1, h2⟩ := vs_ok w hn hS k (by omega)
  have hp := pow256 hn
  have h0 : (vs w S k).1 ≠ 0 := fun z => by
    rw [z] at h2
    have : bc 0 = 0 := by decide
    omega
  obtain ⟨n1, n2, -, -⟩ := nx_spec w (vs w S k).2 (S := (vs w S k).1) (by omega) h0
  refine ⟨by omega, h0, ?_, n2⟩
  exact bit_n (Nat.lt_of_le_of_lt h1 hS) n2
theorem cl_nI {n : Nat} (h : n < 2 ^ 31) : cl (nI n) = n := nI_clamp h
def dW (g : Nat → Nat → Int32) (d : Int64) : Nat → Int64
  | 0 => d
  | k + 1 => mixF (dW g d k) (fun j => (wy g ((j + 8) % 9) k).toInt64) (k + 1)
def dM (g : Nat → Nat → Int32) (d : Int64) : Nat → Int64
  | 0 => d
  | k + 1 => mixS g k (mixF (dM g d k) (fun w => (machF g k w).toInt64) 5) 6
def digF (g : Nat → Nat → Int32) (tt : Nat → Int64) (n np : Nat) : Int64 :=
  ((((dM g (dW g ((211 * 31 + (g 13 0).toInt64) * 31 + (nI n).toInt64) n) n * 31 + (nI np).toInt64) * 31 + tt 0) * 31 + tt 1) * 31 + tt 2) * 31 + tt 3
def roF (g : Nat → Nat → Int32) (k : Nat) : Int32 := if g 5 k ≤ 0 ∨ g 7 k ≤ 0 then -1 else g 13 0 + (g 5 k - nI 1) / g 7 k
def bs1 (x : Int32) : Int32 := x - ((x.toUInt32 >>> ((nI 1).toUInt32 &&& Int32.toUInt32 31)).toInt32 &&& nI 1431655765)
def bs2 (x : Int32) : Int32 := (x &&& nI 858993459) + ((x.toUInt32 >>> ((nI 2).toUInt32 &&& Int32.toUInt32 31)).toInt32 &&& nI 858993459)
def bs3 (x : Int32) : Int32 := (x + (x.toUInt32 >>> ((nI 4).toUInt32 &&& Int32.toUInt32 31)).toInt32) &&& nI 252645135
def bs4 (x : Int32) : Int32 := x + (x.toUInt32 >>> ((nI 8).toUInt32 &&& Int32.toUInt32 31)).toInt32
def bs5 (x : Int32) : Int32 := x + (x.toUInt32 >>> ((nI 16).toUInt32 &&& Int32.toUInt32 31)).toInt32
theorem bs_bc : ∀ S, S < 256 → bs5 (bs4 (bs3 (bs2 (bs1 (nI S))))) &&& nI 63 = nI (bc S) := by decide +kernel
theorem bc_le : ∀ S, S < 256 → bc S ≤ 8 := by decide +kernel
theorem isPl_s {k : Nat} (h : k ≤ 8) : isPl (nI k - nI 1) ((k + 8) % 9) := ⟨by omega, by rw [Int32.sub_add_cancel, show ((k + 8) % 9 + 1) % 9 = k by omega]⟩
theorem nI_s1 (k : Nat) : nI k - nI 1 + 1 = nI (k + 1) - nI 1 := by
  rw [show nI (k + 1) = nI k + nI 1 from (nI_add k 1).symm, Int32.add_sub_cancel, show (1 : Int32) = nI 1 from rfl, Int32.sub_add_cancel]
