/-! Days that pass, in plain words; numbers that agree but for the rows that the class keeps for itself. -/
def eq4 (g g1 : Nat → Nat → Int32) : Prop := ∀ t, t ≠ 14 → t ≠ 15 → t ≠ 16 → t ≠ 18 → g1 t = g t
theorem eq4.rfl' (g : Nat → Nat → Int32) : eq4 g g := fun _ _ _ _ _ => rfl
theorem eq4.tr {g g1 g2 : Nat → Nat → Int32} (h : eq4 g g1) (h' : eq4 g1 g2) : eq4 g g2 := fun t a b c d => (h' t a b c d).trans (h t a b c d)
theorem eq4.up {g g1 : Nat → Nat → Int32} {k : Nat} {f f' : Nat → Int32} (h : eq4 g g1) (e : f' = f) : eq4 (va_up g k f) (va_up g1 k f') := by
  intro t a b c d
  by_cases hk : t = k
  · subst hk
    rw [up_eq, up_eq, e]
  · rw [up_ne hk, up_ne hk, h t a b c d]
theorem eq4.sv {g g1 : Nat → Nat → Int32} {n : Nat} (h : svOK g g1 n) : eq4 g g1 := fun t a b c _ => h.1 t a b c
theorem sfF_c {g g1 : Nat → Nat → Int32} (h : eq4 g g1) (i k : Nat) : eq4 (sfF g i k) (sfF g1 i k) ∧ cntF g1 i k = cntF g i k := by
  have e0 := h 0 (by omega) (by omega) (by omega) (by omega)
  have e1 := h 1 (by omega) (by omega) (by omega) (by omega)
  have e5 := h 5 (by omega) (by omega) (by omega) (by omega)
  have e6 := h 6 (by omega) (by omega) (by omega) (by omega)
  have e7 := h 7 (by omega) (by omega) (by omega) (by omega)
  have e8 := h 8 (by omega) (by omega) (by omega) (by omega)
  have e9 := h 9 (by omega) (by omega) (by omega) (by omega)
  have ec : cntF g1 i k = cntF g i k := by unfold cntF; rw [e0, e1, e5, e6, e7]
  refine ⟨?_, ec⟩
  unfold sfF sfG slG
  rw [ec, e0, e1, e5, e6, e7, e8, e9]
  exact eq4.up (eq4.up (eq4.up (eq4.up h rfl) rfl) rfl) rfl
theorem so_c {g g1 : Nat → Nat → Int32} (h : eq4 g g1) (o : Nat) : ∀ j, eq4 (so g o j).1 (so g1 o j).1 ∧ (so g1 o j).2 = (so g o j).2
  | 0 => ⟨h, rfl⟩
  | j + 1 => by
    obtain ⟨ih1, ih2⟩ := so_c h o j
    obtain ⟨k1, k2⟩ := sfF_c ih1 ((o + j) / 6) (o + j)
    refine ⟨k1, ?_⟩
    show (so g1 o j).2 + cntF (so g1 o j).1 ((o + j) / 6) (o + j) = (so g o j).2 + cntF (so g o j).1 ((o + j) / 6) (o + j)
    rw [ih2, k2]
/-- only the changes of the places L -/
def chG (g : Nat → Nat → Int32) (L : List Nat) : Nat → Nat → Int32 := va_up (va_up (va_up g 10 (fun j => g 10 (L.getD j 0))) 11 (fun j => g 11 (L.getD j 0))) 12 (fun j => g 12 (L.getD j 0))
theorem chG_10 (g : Nat → Nat → Int32) (L : List Nat) : chG g L 10 = fun j => g 10 (L.getD j 0) := by unfold chG; rw [up_ne (by omega), up_ne (by omega), up_eq]
theorem chG_11 (g : Nat → Nat → Int32) (L : List Nat) : chG g L 11 = fun j => g 11 (L.getD j 0) := by unfold chG; rw [up_ne (by omega), up_eq]
theorem chG_12 (g : Nat → Nat → Int32) (L : List Nat) : chG g L 12 = fun j => g 12 (L.getD j 0) := by unfold chG; rw [up_eq]
theorem chG_t (g : Nat → Nat → Int32) (L : List Nat) {t : Nat} (h1 : t ≠ 10) (h2 : t ≠ 11) (h3 : t ≠ 12) : chG g L t = g t := by unfold chG; rw [up_ne h3, up_ne h2, up_ne h1]
theorem chG_c {g g1 : Nat → Nat → Int32} (h : eq4 g g1) (L : List Nat) : eq4 (chG g L) (chG g1 L) := by
  unfold chG
  rw [h 10 (by omega) (by omega) (by omega) (by omega), h 11 (by omega) (by omega) (by omega) (by omega), h 12 (by omega) (by omega) (by omega) (by omega)]
  exact eq4.up (eq4.up (eq4.up h rfl) rfl) rfl
theorem cpG_c {g g1 : Nat → Nat → Int32} (h : eq4 g g1) : ∀ k, eq4 (cpG g k) (cpG g1 k)
  | 0 => h
  | k + 1 => by
    have ih := cpG_c h k
    have e10 := h 10 (by omega) (by omega) (by omega) (by omega)
    have e11 := h 11 (by omega) (by omega) (by omega) (by omega)
    have e12 := h 12 (by omega) (by omega) (by omega) (by omega)
    have e13 := h 13 (by omega) (by omega) (by omega) (by omega)
    have e6 := ih 6 (by omega) (by omega) (by omega) (by omega)
    by_cases hc : g 10 k = g 13 0
    · have hc1 : g1 10 k = g1 13 0 := by rw [e10, e13]; exact hc
      rw [show cpG g (k + 1) = _ from if_pos hc, show cpG g1 (k + 1) = _ from if_pos hc1]
      exact eq4.up ih (by rw [e6, e11, e12])
    · have hc1 : ¬ g1 10 k = g1 13 0 := by rw [e10, e13]; exact hc
      rw [show cpG g (k + 1) = _ from if_neg hc, show cpG g1 (k + 1) = _ from if_neg hc1]
      exact ih
theorem stF_c {g g1 : Nat → Nat → Int32} (h : eq4 g g1) : stF g1 = stF g := by
  funext j
  unfold stF
  rw [h 10 (by omega) (by omega) (by omega) (by omega), h 13 (by omega) (by omega) (by omega) (by omega)]
theorem cp_yes {g g1 : Nat → Nat → Int32} {i : Nat} (hg1 : g1 = cpG g i) (h : g1 10 i = g1 13 0) : va_up g1 6 (upd (g1 6) (g1 11 i).toNatClampNeg (g1 12 i)) = cpG g (i + 1) := by
  have e10 : g1 10 = g 10 := by rw [hg1]; exact cpG_t g (by omega) i
  have e11 : g1 11 = g 11 := by rw [hg1]; exact cpG_t g (by omega) i
  have e12 : g1 12 = g 12 := by rw [hg1]; exact cpG_t g (by omega) i
  have e13 : g1 13 = g 13 := by rw [hg1]; exact cpG_t g (by omega) i
  rw [e10, e13] at h
  rw [show cpG g (i + 1) = _ from if_pos h, e11, e12, ← hg1]
theorem cp_no {g g1 : Nat → Nat → Int32} {i : Nat} (hg1 : g1 = cpG g i) (h : ¬ g1 10 i = g1 13 0) : g1 = cpG g (i + 1) := by
  have e10 : g1 10 = g 10 := by rw [hg1]; exact cpG_t g (by omega) i
  have e13 : g1 13 = g 13 := by rw [hg1]; exact cpG_t g (by omega) i
  rw [e10, e13] at h
  rw [show cpG g (i + 1) = _ from if_neg h, hg1]
theorem nI_m1 (i : Nat) : nI i + (-1) = nI i - nI 1 := by
  rw [Int32.sub_eq_add_neg]
  rfl
/-- the change at place i, while those below it are all left -/
theorem ch_at {g g1 : Nat → Nat → Int32} {ad ad1 : Nat → Nat → Nat} {N N1 : Nat → Nat} {i n : Nat} {p : Nat → Bool} (h : chR (cpG g n) g1 ad ad1 N N1 (kpL p (i + 1) n)) (hi : i < n) : g1 10 i = g 10 i ∧ g1 13 0 = g 13 0 ∧ i < N1 1 := by
  have hl := kp_len (p := p) hi
  obtain ⟨h1, -⟩ := h.e i hl
  rw [kp_at hl, cpG_t g (by omega) n] at h1
  refine ⟨h1, ?_, by rw [h.l]; exact hl⟩
  rw [h.t 13 (by omega) (by omega) (by omega) (by omega), cpG_t g (by omega) n]
/-- the world as the list L has it -/
theorem xW_chG {D : va_G} {cA : Nat → ClassId} {g g1 : Nat → Nat → Int32} {ad ad1 : Nat → Nat → Nat} {N N1 : Nat → Nat} {tt : Nat → Int64} {H : Heap} {L : List Nat} (hX : xW D cA ad1 g1 tt N1 H) (h : chR g g1 ad ad1 N N1 L) : xW D cA ad1 (va_up (chG g L) 18 (g1 18)) tt N1 H := by
  intro c j hv
  have h1 := hX c j hv
  by_cases hc : c = 4
  · subst hc
    have hj : j < L.length := by
      unfold xV at hv
      rw [h.l] at hv
      omega
    obtain ⟨e1, e2, e3, -⟩ := h.e j hj
    have e : xC cA ad1 (va_up (chG g L) 18 (g1 18)) tt N1 4 j = xC cA ad1 g1 tt N1 4 j := by
      simp only [xC]
      rw [up_ne (show 11 ≠ 18 by omega), up_ne (show 10 ≠ 18 by omega), up_ne (show 12 ≠ 18 by omega), chG_10, chG_11, chG_12]
      have hd : L.getD j 0 = L[j] := by simp [List.getD, hj]
      show Sum.inr (2, [Value.ref (ad1 3 (g 11 (L.getD j 0)).toNatClampNeg), .int (g 10 (L.getD j 0)), .int (g 12 (L.getD j 0))]) = _
      rw [hd, ← e1, ← e2, ← e3]
    rw [e]
    exact h1
  · by_cases h2 : c = 0 ∧ j = 2
    · obtain ⟨rfl, rfl⟩ := h2
      have e : xC cA ad1 (va_up (chG g L) 18 (g1 18)) tt N1 0 2 = xC cA ad1 g1 tt N1 0 2 := by
        simp only [xC]
        rw [up_eq]
      rw [e]
      exact h1
    · have hc4 : c < 4 := by
        unfold xV at hv
        omega
      rw [xC_gg (g := g1) c j hc4 (fun t ht => by rw [up_ne (by omega), chG_t g L (by omega) (by omega) (by omega), h.t t (by omega) (by omega) (by omega) (by omega)]) (by rw [up_eq]) h2]
      exact h1
/-- a day: what was sold is in the third place -/
def dyG (g : Nat → Nat → Int32) (m : Nat) : Nat → Nat → Int32 := va_up (so g 0 (6 * m)).1 13 (upd ((so g 0 (6 * m)).1 13) 0 ((so g 0 (6 * m)).1 13 0 + nI 1))
def dyL (g : Nat → Nat → Int32) (m n : Nat) : List Nat := (List.range n).filter (stF (dyG g m))
def psS (m : Nat) (g : Nat → Nat → Int32) (n : Nat) : Nat → (Nat → Nat → Int32) × Nat × Nat
  | 0 => (g, n, 0)
  | k + 1 => (chG (cpG (dyG (psS m g n k).1 m) (psS m g n k).2.1) (dyL (psS m g n k).1 m (psS m g n k).2.1), (dyL (psS m g n k).1 m (psS m g n k).2.1).length, (psS m g n k).2.2 + (so (psS m g n k).1 0 (6 * m)).2)
theorem dyG_c {g g1 : Nat → Nat → Int32} (h : eq4 g g1) (m : Nat) : eq4 (dyG g m) (dyG g1 m) := by
  have k := (so_c h 0 (6 * m)).1
  unfold dyG
  exact eq4.up k (by rw [k 13 (by omega) (by omega) (by omega) (by omega)])
theorem dyL_c {g g1 : Nat → Nat → Int32} (h : eq4 g g1) (m n : Nat) : dyL g1 m n = dyL g m n := by
  unfold dyL
  rw [stF_c (dyG_c h m)]
/-- the planned changes name slots that are there -/
def chOK (g : Nat → Nat → Int32) (m n : Nat) : Prop := ∀ k, k < n → cl (g 11 k) < 6 * m
theorem chG_ok {g : Nat → Nat → Int32} {m n : Nat} {p : Nat → Bool} (h : chOK g m n) : chOK (chG g ((List.range n).filter p)) m ((List.range n).filter p).length := by
  intro k hk
  rw [chG_11]
  have hd : ((List.range n).filter p).getD k 0 = ((List.range n).filter p)[k] := by simp [List.getD, hk]
  show cl (g 11 (((List.range n).filter p).getD k 0)) < _
  rw [hd]
  have h1 := List.getElem_mem hk
  have h2 := List.mem_range.mp (List.mem_filter.mp h1).1
  exact h _ h2
