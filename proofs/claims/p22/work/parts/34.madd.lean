/-! A machine more: the world grown. -/
section MM
variable {D : va_G} {cA : Nat → ClassId} {ad : Nat → Nat → Nat} {g : Nat → Nat → Int32} {tt : Nat → Int64} {N : Nat → Nat} {H H1 : Heap} {A : Nat → Prop} {e0 : Nat}
def amG (g : Nat → Nat → Int32) (n : Nat) (v : Int32) : Nat → Nat → Int32 := va_up (va_up g 0 (upd (g 0) n v)) 18 (upd (g 18) 0 (g 18 0 + nI 1))
theorem amG_0 (g : Nat → Nat → Int32) (n : Nat) (v : Int32) : amG g n v 0 = upd (g 0) n v := by unfold amG; rw [up_ne (by omega), up_eq]
theorem amG_18 (g : Nat → Nat → Int32) (n : Nat) (v : Int32) : amG g n v 18 = upd (g 18) 0 (g 18 0 + nI 1) := by unfold amG; rw [up_eq]
theorem amG_t (g : Nat → Nat → Int32) (n : Nat) (v : Int32) {t : Nat} (h1 : t ≠ 0) (h2 : t ≠ 18) : amG g n v t = g t := by unfold amG; rw [up_ne h2, up_ne h1]
def amA (ad : Nat → Nat → Nat) (n q row d2 : Nat) (sl : Nat → Nat) (c j : Nat) : Nat := if c = 1 ∧ j = n then q else if c = 2 ∧ j = n then row else if c = 3 ∧ 6 * n ≤ j then sl (j - 6 * n) else if c = 0 ∧ j = 9 then d2 else ad c j
def amN' (N : Nat → Nat) : Nat → Nat := va_up (va_up N 0 (N 0 + 1)) 2 10
theorem amN_0 : amN' N 0 = N 0 + 1 := by unfold amN'; rw [up_ne (by omega), up_eq]
theorem amN_1 : amN' N 1 = N 1 := by unfold amN'; rw [up_ne (by omega), up_ne (by omega)]
theorem amN_2 : amN' N 2 = 10 := by unfold amN'; rw [up_eq]
theorem amN_3 : amN' N 3 = N 3 := by unfold amN'; rw [up_ne (by omega), up_ne (by omega)]
theorem am_key {q row d2 : Nat} {sl : Nat → Nat} (c j : Nat) (hv : xV (amN' N) c j) : (c = 1 ∧ j = N 0 ∧ amA ad (N 0) q row d2 sl c j = q) ∨ (c = 2 ∧ j = N 0 ∧ amA ad (N 0) q row d2 sl c j = row) ∨ (c = 3 ∧ 6 * N 0 ≤ j ∧ j - 6 * N 0 < 6 ∧ amA ad (N 0) q row d2 sl c j = sl (j - 6 * N 0)) ∨ (c = 0 ∧ j = 9 ∧ amA ad (N 0) q row d2 sl c j = d2) ∨ (xV N c j ∧ ¬ (c = 0 ∧ j = 9) ∧ amA ad (N 0) q row d2 sl c j = ad c j) := by
  unfold xV at hv
  rw [amN_0, amN_1, amN_2, amN_3] at hv
  unfold amA
  by_cases a1 : c = 1 ∧ j = N 0
  · exact Or.inl ⟨a1.1, a1.2, if_pos a1⟩
  · rw [if_neg a1]
    by_cases a2 : c = 2 ∧ j = N 0
    · exact Or.inr (Or.inl ⟨a2.1, a2.2, if_pos a2⟩)
    · rw [if_neg a2]
      by_cases a3 : c = 3 ∧ 6 * N 0 ≤ j
      · exact Or.inr (Or.inr (Or.inl ⟨a3.1, a3.2, by omega, if_pos a3⟩))
      · rw [if_neg a3]
        by_cases a4 : c = 0 ∧ j = 9
        · exact Or.inr (Or.inr (Or.inr (Or.inl ⟨a4.1, a4.2, if_pos a4⟩)))
        · rw [if_neg a4]
          refine Or.inr (Or.inr (Or.inr (Or.inr ⟨?_, a4, rfl⟩)))
          unfold xV
          omega
theorem xA.addM {q row d2 : Nat} {sl : Nat → Nat} (h : xA A e0 ad N) (hX : xW D cA ad g tt N H) (hq : H.size ≤ q) (hrow : q < row) (hsl : ∀ i, i < 6 → q < sl i ∧ sl i ≠ row) (hdi : ∀ i, i < 6 → ∀ i2, i2 < 6 → sl i = sl i2 → i = i2) (hAq : A q) (hAr : A row) (hAs : ∀ i, i < 6 → A (sl i)) (hAd : A d2)
    (hd : d2 ≠ q ∧ d2 ≠ row ∧ ∀ i, i < 6 → d2 ≠ sl i) (hdo : (0 < N 2 ∧ d2 = ad 0 9) ∨ H.size ≤ d2) (hn : N 0 < 8) : xA A e0 (amA ad (N 0) q row d2 sl) (amN' N) := by
  obtain ⟨h1, h2, h3, h4, h5, h6, h7, h8, h9, h10⟩ := h
  have old : ∀ c j, xV N c j → ¬ (c = 0 ∧ j = 9) → ad c j < H.size ∧ ad c j ≠ d2 := by
    intro c j hv hn2
    have hl := hX.lt hv
    refine ⟨hl, fun z => ?_⟩
    rcases hdo with ⟨z1, z2⟩ | z1
    · exact hn2 (h1 c j 0 9 hv (xV9 z1) (z.trans z2))
    · omega
  refine ⟨fun c j c' j' hv hv' he => ?_, fun c j hv => ?_, fun z => ?_, fun z => ?_, ?_, ?_, ?_, ?_, ?_, ?_⟩
  · rcases am_key (ad := ad) (q := q) (row := row) (d2 := d2) (sl := sl) c j hv with ⟨a, b, e⟩ | ⟨a, b, e⟩ | ⟨a, b, b2, e⟩ | ⟨a, b, e⟩ | ⟨a, b, e⟩ <;> rcases am_key (ad := ad) (q := q) (row := row) (d2 := d2) (sl := sl) c' j' hv' with ⟨a', b', e'⟩ | ⟨a', b', e'⟩ | ⟨a', b', b2', e'⟩ | ⟨a', b', e'⟩ | ⟨a', b', e'⟩ <;> rw [e, e'] at he
    · exact ⟨a.trans a'.symm, b.trans b'.symm⟩
    · omega
    · have := hsl _ b2'; omega
    · exact absurd he.symm hd.1
    · have := old c' j' a' b'; omega
    · omega
    · exact ⟨a.trans a'.symm, b.trans b'.symm⟩
    · exact absurd he.symm (hsl _ b2').2
    · exact absurd he.symm hd.2.1
    · have := old c' j' a' b'; omega
    · have := hsl _ b2; omega
    · exact absurd he (hsl _ b2).2
    · have := hdi _ b2 _ b2' he
      exact ⟨a.trans a'.symm, by omega⟩
    · exact absurd he.symm (hd.2.2 _ b2)
    · have := old c' j' a' b'; have := hsl _ b2; omega
    · exact absurd he hd.1
    · exact absurd he hd.2.1
    · exact absurd he (hd.2.2 _ b2')
    · exact ⟨a.trans a'.symm, b.trans b'.symm⟩
    · exact absurd he.symm (old c' j' a' b').2
    · have := old c j a b; omega
    · have := old c j a b; omega
    · have := old c j a b; have := hsl _ b2'; omega
    · exact absurd he (old c j a b).2
    · exact h1 c j c' j' a a' he
  · rcases am_key (ad := ad) (q := q) (row := row) (d2 := d2) (sl := sl) c j hv with ⟨-, -, e⟩ | ⟨-, -, e⟩ | ⟨-, -, b2, e⟩ | ⟨-, -, e⟩ | ⟨a, -, e⟩ <;> rw [e]
    · exact hAq
    · exact hAr
    · exact hAs _ b2
    · exact hAd
    · exact h2 c j a
  · rw [amN_2] at z; omega
  · rw [amN_3] at z
    unfold amA
    rw [if_neg (by omega), if_neg (by omega), if_neg (by omega), if_neg (by omega)]
    exact h4 z
  · rw [amN_0]; omega
  · rw [amN_0, amN_2]; omega
  · rw [amN_2]; omega
  · rw [amN_1]; exact h8
  · rw [amN_1, amN_3]; exact h9
  · rw [amN_3]; exact h10
theorem va_cq {q n : Nat} {c : ClassId} {f f' : Nat → Option Nat} (h : va_at D vwCl (q, .inl (c, n, .inr (.inr (.inr (.inr f))))) H) (e : ∀ j, j < n → f j = f' j) : va_at D vwCl (q, .inl (c, n, .inr (.inr (.inr (.inr f'))))) H := by
  have h1 : H[q]? = some (arrV c n (fun j => va_rf (f j))) := h
  show H[q]? = some (arrV c n (fun j => va_rf (f' j)))
  rw [h1, arrV_c (fun j hj => by rw [e j hj])]
theorem amA_o {n q row d2 : Nat} {sl : Nat → Nat} {c j : Nat} (h1 : ¬ (c = 1 ∧ j = n)) (h2 : ¬ (c = 2 ∧ j = n)) (h3 : ¬ (c = 3 ∧ 6 * n ≤ j)) (h4 : ¬ (c = 0 ∧ j = 9)) : amA ad n q row d2 sl c j = ad c j := by
  unfold amA
  rw [if_neg h1, if_neg h2, if_neg h3, if_neg h4]
/-- what of the numbers is as a new machine has it -/
def dfl (g : Nat → Nat → Int32) (n : Nat) : Prop := ∀ k, (n ≤ k → g 1 k = 0 ∧ g 2 k = 0) ∧ (6 * n ≤ k → g 4 k = 0 ∧ g 5 k = 0 ∧ g 6 k = nI 100 ∧ g 7 k = 0 ∧ g 8 k = 0 ∧ g 9 k = 0)
theorem xW.addM {q row d2 : Nat} {sl : Nat → Nat} {v : Int32} (h : xW D cA ad g tt N H) (hdf : dfl g (N 0)) (hC : chOK g (N 0) (N 1)) (hn : N 0 < 8)
    (hL : va_at D vwCl (ad 0 1, .inr (0, [.int (g 18 0 + nI 1), .ref d2, .int (nI (N 0 + 1))])) H1) (hQ : va_at D vwCl (q, .inr (1, [.int v, .ref row, .int 0, .int 0])) H1) (hR : ∃ f, va_at D vwCl (row, .inl (cA 3, 6, .inr (.inr (.inr (.inr f))))) H1 ∧ ∀ i, i < 6 → f i = some (sl i))
    (hS : ∀ i, i < 6 → va_at D vwCl (sl i, .inr (4, [.int 0, .int 0, .int (nI 100), .int 0, .int 0, .int 0])) H1)
    (hF : va_at D vwCl (d2, .inl (cA 2, 10, .inr (.inr (.inr (.inr (fun j => if j < N 0 + 1 then some (va_up (ad 1) (N 0) q j) else none)))))) H1)
    (ho : ∀ c j, xV N c j → ¬ (c = 0 ∧ j = 1) → ¬ (c = 0 ∧ j = 9) → H1[ad c j]? = H[ad c j]?) : xW D cA (amA ad (N 0) q row d2 sl) (amG g (N 0) v) tt (amN' N) H1 := by
  have keep : ∀ c j, xV N c j → ¬ (c = 0 ∧ j = 1) → ¬ (c = 0 ∧ j = 9) → va_at D vwCl (ad c j, xC cA ad g tt N c j) H1 := fun c j hv n1 n2 => (h c j hv).kept (ho c j hv n1 n2)
  have a1 : ∀ j, amA ad (N 0) q row d2 sl 1 j = va_up (ad 1) (N 0) q j := fun j => by
    unfold amA
    by_cases hj : j = N 0
    · rw [if_pos ⟨rfl, hj⟩, hj, up_eq]
    · rw [if_neg (fun z => hj z.2), if_neg (by omega), if_neg (by omega), if_neg (by omega), up_ne hj]
  have g0 := amG_0 g (N 0) v
  have gt : ∀ t, t ≠ 0 → t ≠ 18 → amG g (N 0) v t = g t := fun t => amG_t g (N 0) v
  intro c j hv
  rcases am_key (ad := ad) (q := q) (row := row) (d2 := d2) (sl := sl) c j hv with ⟨rfl, rfl, e⟩ | ⟨rfl, rfl, e⟩ | ⟨rfl, b, b2, e⟩ | ⟨rfl, rfl, e⟩ | ⟨a, b, e⟩ <;> rw [e]
  · have z : xC cA (amA ad (N 0) q row d2 sl) (amG g (N 0) v) tt (amN' N) 1 (N 0) = .inr (1, [.int v, .ref row, .int 0, .int 0]) := by
      simp only [xC]
      rw [g0, gt 1 (by omega) (by omega), gt 2 (by omega) (by omega), upd_eq, ((hdf (N 0)).1 (Nat.le_refl _)).1, ((hdf (N 0)).1 (Nat.le_refl _)).2]
      unfold amA
      rw [if_neg (by omega), if_pos ⟨rfl, rfl⟩]
    rw [z]
    exact hQ
  · obtain ⟨f, hf1, hf2⟩ := hR
    have z : xC cA (amA ad (N 0) q row d2 sl) (amG g (N 0) v) tt (amN' N) 2 (N 0) = .inl (cA 3, 6, .inr (.inr (.inr (.inr (fun j => some (amA ad (N 0) q row d2 sl 3 (6 * N 0 + j))))))) := by simp only [xC]
    rw [z]
    refine va_cq hf1 (fun j hj => ?_)
    rw [hf2 j hj]
    unfold amA
    rw [if_neg (by omega), if_neg (by omega), if_pos ⟨rfl, by omega⟩, show 6 * N 0 + j - 6 * N 0 = j by omega]
  · obtain ⟨d4, d5, d6, d7, d8, d9⟩ := (hdf j).2 b
    have z : xC cA (amA ad (N 0) q row d2 sl) (amG g (N 0) v) tt (amN' N) 3 j = .inr (4, [.int 0, .int 0, .int (nI 100), .int 0, .int 0, .int 0]) := by
      simp only [xC]
      rw [gt 4 (by omega) (by omega), gt 5 (by omega) (by omega), gt 6 (by omega) (by omega), gt 7 (by omega) (by omega), gt 8 (by omega) (by omega), gt 9 (by omega) (by omega), d4, d5, d6, d7, d8, d9]
    rw [z]
    exact hS _ b2
  · have z : xC cA (amA ad (N 0) q row d2 sl) (amG g (N 0) v) tt (amN' N) 0 9 = .inl (cA 2, 10, .inr (.inr (.inr (.inr (fun j => if j < N 0 + 1 then some (va_up (ad 1) (N 0) q j) else none))))) := by
      simp only [xC]
      rw [amN_2, amN_0, show (fun j => if j < N 0 + 1 then some (amA ad (N 0) q row d2 sl 1 j) else none) = fun j => if j < N 0 + 1 then some (va_up (ad 1) (N 0) q j) else none from funext fun j => by rw [a1 j]]
    rw [z]
    exact hF
  · by_cases c4 : c = 4
    · subst c4
      have hj : j < N 1 := by
        unfold xV at a
        omega
      have z : xC cA (amA ad (N 0) q row d2 sl) (amG g (N 0) v) tt (amN' N) 4 j = xC cA ad g tt N 4 j := by
        simp only [xC]
        rw [gt 11 (by omega) (by omega), gt 10 (by omega) (by omega), gt 12 (by omega) (by omega), amA_o (by omega) (by omega) (fun z => by have := (show (g 11 j).toNatClampNeg < 6 * N 0 from hC j hj); omega) (by omega)]
      rw [z]
      exact keep 4 j a (by omega) (by omega)
    · by_cases c01 : c = 0 ∧ j = 1
      · obtain ⟨rfl, rfl⟩ := c01
        have z : xC cA (amA ad (N 0) q row d2 sl) (amG g (N 0) v) tt (amN' N) 0 1 = .inr (0, [.int (g 18 0 + nI 1), .ref d2, .int (nI (N 0 + 1))]) := by
          simp only [xC]
          rw [amN_0, amG_18, upd_eq]
          unfold amA
          rw [if_neg (by omega), if_neg (by omega), if_neg (by omega), if_pos ⟨rfl, rfl⟩]
        rw [z]
        exact hL
      · by_cases c2 : c = 2
        · subst c2
          have hj : j < N 0 := by
            unfold xV at a
            omega
          have z := keep 2 j a (by omega) (by omega)
          have z1 : va_at D vwCl (ad 2 j, .inl (cA 3, 6, .inr (.inr (.inr (.inr (fun i => some (ad 3 (6 * j + i)))))))) H1 := z
          have z2 : xC cA (amA ad (N 0) q row d2 sl) (amG g (N 0) v) tt (amN' N) 2 j = .inl (cA 3, 6, .inr (.inr (.inr (.inr (fun i => some (amA ad (N 0) q row d2 sl 3 (6 * j + i))))))) := by simp only [xC]
          rw [z2]
          exact va_cq z1 (fun i hi => by rw [amA_o (by omega) (by omega) (by omega) (by omega)])
        refine cast (congrArg (fun x => va_at D vwCl (ad c j, x) H1) ?_) (keep c j a c01 b)
        have hc : c = 0 ∧ (j = 0 ∨ j = 2 ∨ j = 3 ∨ j = 4 ∨ j = 5 ∨ j = 6 ∨ j = 7 ∨ j = 8 ∨ j = 10) ∨ (c = 1 ∧ j < N 0) ∨ (c = 3 ∧ j < 6 * N 0) := by
          unfold xV at a
          omega
        rcases hc with ⟨rfl, hj⟩ | ⟨rfl, hj⟩ | ⟨rfl, hj⟩
        · rcases hj with rfl | rfl | rfl | rfl | rfl | rfl | rfl | rfl | rfl
          · simp only [xC]
            rw [gt 13 (by omega) (by omega), amA_o (by omega) (by omega) (by omega) (by omega), amA_o (by omega) (by omega) (by omega) (by omega), amA_o (by omega) (by omega) (by omega) (by omega), amA_o (by omega) (by omega) (by omega) (by omega), amA_o (by omega) (by omega) (by omega) (by omega), amA_o (by omega) (by omega) (by omega) (by omega)]
          · simp only [xC]
            rw [amG_18, upd_ne (by omega), amN_1, amA_o (by omega) (by omega) (by omega) (by omega)]
          · simp only [xC]
            rw [amA_o (by omega) (by omega) (by omega) (by omega), amA_o (by omega) (by omega) (by omega) (by omega)]
          · simp only [xC]
            rw [gt 14 (by omega) (by omega)]
          · simp only [xC]
            rw [gt 15 (by omega) (by omega)]
          · simp only [xC]
            rw [gt 16 (by omega) (by omega)]
          · simp only [xC]
            rw [gt 3 (by omega) (by omega)]
          · simp only [xC]
            rw [gt 17 (by omega) (by omega)]
          · simp only [xC]
            rw [amN_3, amN_1]
            congr 6
        · simp only [xC]
          rw [g0, gt 1 (by omega) (by omega), gt 2 (by omega) (by omega), upd_ne (by omega), amA_o (by omega) (by omega) (by omega) (by omega)]
        · simp only [xC]
          rw [gt 4 (by omega) (by omega), gt 5 (by omega) (by omega), gt 6 (by omega) (by omega), gt 7 (by omega) (by omega), gt 8 (by omega) (by omega), gt 9 (by omega) (by omega)]
end MM
