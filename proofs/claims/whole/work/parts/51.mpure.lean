/-! The model's days, in plain words: a slot's wishes one by one, the changes kept in place; numbers that agree in the rows that both sides have. -/
def eqT (g g1 : Nat → Nat → Int32) : Prop := ∀ t, t < 14 → g1 t = g t
theorem eqT.rfl' (g : Nat → Nat → Int32) : eqT g g := fun _ _ => rfl
theorem eqT.tr {g g1 g2 : Nat → Nat → Int32} (h : eqT g g1) (h' : eqT g1 g2) : eqT g g2 := fun t a => (h' t a).trans (h t a)
theorem eqT.up {g g1 : Nat → Nat → Int32} {k : Nat} {f f' : Nat → Int32} (h : eqT g g1) (e : f' = f) : eqT (va_up g k f) (va_up g1 k f') := by
  intro t a
  by_cases hk : t = k
  · subst hk
    rw [up_eq, up_eq, e]
  · rw [up_ne hk, up_ne hk, h t a]
theorem sfF_d {g g1 : Nat → Nat → Int32} (h : eqT g g1) (i k : Nat) : eqT (sfF g i k) (sfF g1 i k) ∧ cntF g1 i k = cntF g i k := by
  have e0 := h 0 (by omega)
  have e1 := h 1 (by omega)
  have e5 := h 5 (by omega)
  have e6 := h 6 (by omega)
  have e7 := h 7 (by omega)
  have e8 := h 8 (by omega)
  have e9 := h 9 (by omega)
  have ec : cntF g1 i k = cntF g i k := by unfold cntF; rw [e0, e1, e5, e6, e7]
  refine ⟨?_, ec⟩
  unfold sfF sfG slG
  rw [ec, e0, e1, e5, e6, e7, e8, e9]
  exact eqT.up (eqT.up (eqT.up (eqT.up h rfl) rfl) rfl) rfl
theorem so_d {g g1 : Nat → Nat → Int32} (h : eqT g g1) (o : Nat) : ∀ j, eqT (so g o j).1 (so g1 o j).1 ∧ (so g1 o j).2 = (so g o j).2
  | 0 => ⟨h, rfl⟩
  | j + 1 => by
    obtain ⟨ih1, ih2⟩ := so_d h o j
    obtain ⟨k1, k2⟩ := sfF_d ih1 ((o + j) / 6) (o + j)
    refine ⟨k1, ?_⟩
    show (so g1 o j).2 + cntF (so g1 o j).1 ((o + j) / 6) (o + j) = (so g o j).2 + cntF (so g o j).1 ((o + j) / 6) (o + j)
    rw [ih2, k2]
theorem chG_d {g g1 : Nat → Nat → Int32} (h : eqT g g1) (L : List Nat) : eqT (chG g L) (chG g1 L) := by
  unfold chG
  rw [h 10 (by omega), h 11 (by omega), h 12 (by omega)]
  exact eqT.up (eqT.up (eqT.up h rfl) rfl) rfl
theorem cpG_d {g g1 : Nat → Nat → Int32} (h : eqT g g1) : ∀ k, eqT (cpG g k) (cpG g1 k)
  | 0 => h
  | k + 1 => by
    have ih := cpG_d h k
    have e10 := h 10 (by omega)
    have e11 := h 11 (by omega)
    have e12 := h 12 (by omega)
    have e13 := h 13 (by omega)
    have e6 := ih 6 (by omega)
    by_cases hc : g 10 k = g 13 0
    · have hc1 : g1 10 k = g1 13 0 := by rw [e10, e13]; exact hc
      rw [show cpG g (k + 1) = _ from if_pos hc, show cpG g1 (k + 1) = _ from if_pos hc1]
      exact eqT.up ih (by rw [e6, e11, e12])
    · have hc1 : ¬ g1 10 k = g1 13 0 := by rw [e10, e13]; exact hc
      rw [show cpG g (k + 1) = _ from if_neg hc, show cpG g1 (k + 1) = _ from if_neg hc1]
      exact ih
theorem stF_d {g g1 : Nat → Nat → Int32} (h : eqT g g1) : stF g1 = stF g := by
  funext j
  unfold stF
  rw [h 10 (by omega), h 13 (by omega)]
theorem dyG_d {g g1 : Nat → Nat → Int32} (h : eqT g g1) (m : Nat) : eqT (dyG g m) (dyG g1 m) := by
  have k := (so_d h 0 (6 * m)).1
  unfold dyG
  exact eqT.up k (by rw [k 13 (by omega)])
theorem dyL_d {g g1 : Nat → Nat → Int32} (h : eqT g g1) (m n : Nat) : dyL g1 m n = dyL g m n := by
  unfold dyL
  rw [stF_d (dyG_d h m)]
theorem psT_step {m : Nat} {g g1 : Nat → Nat → Int32} {n n1 k : Nat} (h : eqT (psS m g n k).1 g1) (hn : n1 = (psS m g n k).2.1) : eqT (psS m g n (k + 1)).1 (chG (cpG (dyG g1 m) n1) ((List.range n1).filter (stF (dyG g1 m)))) ∧ ((List.range n1).filter (stF (dyG g1 m))).length = (psS m g n (k + 1)).2.1 ∧ (psS m g n (k + 1)).2.2 = (psS m g n k).2.2 + (so g1 0 (6 * m)).2 := by
  have e1 : (List.range n1).filter (stF (dyG g1 m)) = dyL (psS m g n k).1 m (psS m g n k).2.1 := by
    rw [← dyL_d h m, ← hn]
    rfl
  rw [e1]
  refine ⟨?_, rfl, ?_⟩
  · rw [hn]
    exact chG_d (cpG_d (dyG_d h m) _) _
  · show (psS m g n k).2.2 + (so (psS m g n k).1 0 (6 * m)).2 = _
    rw [(so_d h 0 (6 * m)).2]
theorem eqT.iv {g g1 : Nat → Nat → Int32} {n : Nat} (h : eqT g g1) (hI : slInv g n) : slInv g1 n := inv_c hI (h 4 (by omega)) (h 5 (by omega)) (h 7 (by omega))
theorem eqT.ok {g g1 : Nat → Nat → Int32} {m n : Nat} (h : eqT g g1) (hC : chOK g m n) : chOK g1 m n := by
  unfold chOK
  rw [h 11 (by omega)]
  exact hC
/-! one wish after the other -/
def seY (g : Nat → Nat → Int32) (i k : Nat) : Prop := 0 < g 5 k ∧ g 1 i + g 6 k ≤ g 0 i
def seP (g : Nat → Nat → Int32) (i k : Nat) : Nat → Nat → Int32 := va_up (va_up (va_up g 5 (upd (g 5) k (g 5 k - nI 1))) 1 (upd (g 1) i (g 1 i + g 6 k))) 8 (upd (g 8) k (g 8 k + nI 1))
def seN (g : Nat → Nat → Int32) (k : Nat) : Nat → Nat → Int32 := va_up g 9 (upd (g 9) k (g 9 k + nI 1))
theorem seP_5 (g : Nat → Nat → Int32) (i k : Nat) : seP g i k 5 = upd (g 5) k (g 5 k - nI 1) := by unfold seP; rw [up_ne (by omega), up_ne (by omega), up_eq]
theorem seP_1 (g : Nat → Nat → Int32) (i k : Nat) : seP g i k 1 = upd (g 1) i (g 1 i + g 6 k) := by unfold seP; rw [up_ne (by omega), up_eq]
theorem seP_8 (g : Nat → Nat → Int32) (i k : Nat) : seP g i k 8 = upd (g 8) k (g 8 k + nI 1) := by unfold seP; rw [up_eq]
theorem seP_t (g : Nat → Nat → Int32) (i k : Nat) {t : Nat} (h5 : t ≠ 5) (h1 : t ≠ 1) (h8 : t ≠ 8) : seP g i k t = g t := by unfold seP; rw [up_ne h8, up_ne h1, up_ne h5]
def mfG (g : Nat → Nat → Int32) (i k p : Nat) : Nat → Nat → Int32 := va_up (va_up (slG g i k (slS (g 6 k) (g 0 i) (g 5 k) (g 1 i) p)) 8 (upd (g 8) k (g 8 k + nI (slS (g 6 k) (g 0 i) (g 5 k) (g 1 i) p).2.2))) 9 (upd (g 9) k (g 9 k + nI (p - (slS (g 6 k) (g 0 i) (g 5 k) (g 1 i) p).2.2)))
theorem mfG_9 (g : Nat → Nat → Int32) (i k p : Nat) : mfG g i k p 9 = upd (g 9) k (g 9 k + nI (p - (slS (g 6 k) (g 0 i) (g 5 k) (g 1 i) p).2.2)) := by unfold mfG; rw [up_eq]
theorem mfG_8 (g : Nat → Nat → Int32) (i k p : Nat) : mfG g i k p 8 = upd (g 8) k (g 8 k + nI (slS (g 6 k) (g 0 i) (g 5 k) (g 1 i) p).2.2) := by unfold mfG; rw [up_ne (by omega), up_eq]
theorem mfG_5 (g : Nat → Nat → Int32) (i k p : Nat) : mfG g i k p 5 = upd (g 5) k (slS (g 6 k) (g 0 i) (g 5 k) (g 1 i) p).1 := by unfold mfG; rw [up_ne (by omega), up_ne (by omega), slG_5]
theorem mfG_1 (g : Nat → Nat → Int32) (i k p : Nat) : mfG g i k p 1 = upd (g 1) i (slS (g 6 k) (g 0 i) (g 5 k) (g 1 i) p).2.1 := by unfold mfG; rw [up_ne (by omega), up_ne (by omega), slG_1]
theorem mfG_t (g : Nat → Nat → Int32) (i k p : Nat) {t : Nat} (h5 : t ≠ 5) (h1 : t ≠ 1) (h8 : t ≠ 8) (h9 : t ≠ 9) : mfG g i k p t = g t := by unfold mfG; rw [up_ne h9, up_ne h8, slG_n g i k _ h5 h1]
theorem mf_0 (g : Nat → Nat → Int32) (i k : Nat) : mfG g i k 0 = g := by
  unfold mfG
  show va_up (va_up (slG g i k (g 5 k, g 1 i, 0)) 8 (upd (g 8) k (g 8 k + nI 0))) 9 (upd (g 9) k (g 9 k + nI 0)) = g
  rw [slG_0, nI_0, Int32.add_zero, Int32.add_zero, upd_id, upd_id, up_id, up_id]
theorem mf_iff (g : Nat → Nat → Int32) (i k p : Nat) : seY (mfG g i k p) i k ↔ (0 < (slS (g 6 k) (g 0 i) (g 5 k) (g 1 i) p).1 ∧ (slS (g 6 k) (g 0 i) (g 5 k) (g 1 i) p).2.1 + g 6 k ≤ g 0 i) := by
  unfold seY
  rw [mfG_5, mfG_1, mfG_t g i k p (t := 6) (by omega) (by omega) (by omega) (by omega), mfG_t g i k p (t := 0) (by omega) (by omega) (by omega) (by omega), upd_eq, upd_eq]
theorem mf_yes {g : Nat → Nat → Int32} {i k p : Nat} (h : seY (mfG g i k p) i k) : seP (mfG g i k p) i k = mfG g i k (p + 1) ∧ (slS (g 6 k) (g 0 i) (g 5 k) (g 1 i) (p + 1)).2.2 = (slS (g 6 k) (g 0 i) (g 5 k) (g 1 i) p).2.2 + 1 := by
  have h' := (mf_iff g i k p).mp h
  have e := slS_yes h'.1 h'.2
  have hle := slS_le (g 6 k) (g 0 i) (g 5 k) (g 1 i) p
  refine ⟨?_, by rw [e]⟩
  funext t
  by_cases h5 : t = 5
  · rw [h5, seP_5, mfG_5, mfG_5, e, upd_eq, upd_upd]
  · by_cases h1 : t = 1
    · rw [h1, seP_1, mfG_1, mfG_1, mfG_t g i k p (t := 6) (by omega) (by omega) (by omega) (by omega), e, upd_eq, upd_upd]
    · by_cases h8 : t = 8
      · rw [h8, seP_8, mfG_8, mfG_8, e, upd_eq, upd_upd, Int32.add_assoc, nI_add]
      · rw [seP_t _ i k h5 h1 h8]
        by_cases h9 : t = 9
        · rw [h9, mfG_9, mfG_9, e]
          show _ = upd (g 9) k (g 9 k + nI (p + 1 - ((slS (g 6 k) (g 0 i) (g 5 k) (g 1 i) p).2.2 + 1)))
          rw [Nat.add_sub_add_right]
        · rw [mfG_t g i k p h5 h1 h8 h9, mfG_t g i k (p + 1) h5 h1 h8 h9]
theorem mf_no {g : Nat → Nat → Int32} {i k p : Nat} (h : ¬ seY (mfG g i k p) i k) : seN (mfG g i k p) k = mfG g i k (p + 1) ∧ (slS (g 6 k) (g 0 i) (g 5 k) (g 1 i) (p + 1)).2.2 = (slS (g 6 k) (g 0 i) (g 5 k) (g 1 i) p).2.2 := by
  have h' := fun z => h ((mf_iff g i k p).mpr z)
  have e := slS_no h'
  have hle := slS_le (g 6 k) (g 0 i) (g 5 k) (g 1 i) p
  refine ⟨?_, by rw [e]⟩
  funext t
  unfold seN
  by_cases h9 : t = 9
  · rw [h9, up_eq, mfG_9, mfG_9, e, upd_eq, upd_upd, Int32.add_assoc, nI_add, show p - (slS (g 6 k) (g 0 i) (g 5 k) (g 1 i) p).2.2 + 1 = p + 1 - (slS (g 6 k) (g 0 i) (g 5 k) (g 1 i) p).2.2 by omega]
  · rw [up_ne h9]
    by_cases h5 : t = 5
    · rw [h5, mfG_5, mfG_5, e]
    · by_cases h1 : t = 1
      · rw [h1, mfG_1, mfG_1, e]
      · by_cases h8 : t = 8
        · rw [h8, mfG_8, mfG_8, e]
        · rw [mfG_t g i k p h5 h1 h8 h9, mfG_t g i k (p + 1) h5 h1 h8 h9]
theorem mf_end {g : Nat → Nat → Int32} {i k d : Nat} (hd : g 7 k = nI d) (hd2 : d ≤ 20) : mfG g i k d = sfF g i k ∧ (slS (g 6 k) (g 0 i) (g 5 k) (g 1 i) d).2.2 = cntF g i k := by
  have hle := slS_le (g 6 k) (g 0 i) (g 5 k) (g 1 i) d
  have ec : cntF g i k = (slS (g 6 k) (g 0 i) (g 5 k) (g 1 i) d).2.2 := by unfold cntF; rw [hd, cl_nI (by omega)]
  refine ⟨?_, ec.symm⟩
  unfold sfF mfG sfG
  rw [ec, hd, cl_nI (by omega), pk_sub hle]
theorem so_0s (g : Nat → Nat → Int32) (a : Nat) : so g 0 (a + 1) = (sfF (so g 0 a).1 (a / 6) a, (so g 0 a).2 + cntF (so g 0 a).1 (a / 6) a) := by
  show (sfF (so g 0 a).1 ((0 + a) / 6) (0 + a), (so g 0 a).2 + cntF (so g 0 a).1 ((0 + a) / 6) (0 + a)) = _
  rw [Nat.zero_add]
/-! the changes kept in place -/
def kpt (g : Nat → Nat → Int32) (k : Nat) : List Nat := (List.range k).filter (stF g)
theorem kpt_yes {g : Nat → Nat → Int32} {k : Nat} (h : ¬ g 10 k = g 13 0) : kpt g (k + 1) = kpt g k ++ [k] := by
  unfold kpt
  rw [List.range_succ, List.filter_append, List.filter_cons_of_pos (by unfold stF; exact decide_eq_true h), List.filter_nil]
theorem kpt_no {g : Nat → Nat → Int32} {k : Nat} (h : g 10 k = g 13 0) : kpt g (k + 1) = kpt g k := by
  unfold kpt
  rw [List.range_succ, List.filter_append, List.filter_cons_of_neg (by unfold stF; exact fun z => (of_decide_eq_true z) h), List.filter_nil, List.append_nil]
theorem kpt_le (g : Nat → Nat → Int32) (k : Nat) : (kpt g k).length ≤ k := by
  unfold kpt
  exact Nat.le_trans (List.length_filter_le _ _) (Nat.le_of_eq List.length_range)
theorem kpt_lt {g : Nat → Nat → Int32} {k j : Nat} (hj : j < (kpt g k).length) : (kpt g k).getD j 0 < k := by
  have hd : (kpt g k).getD j 0 = (kpt g k)[j] := by simp [List.getD, hj]
  rw [hd]
  exact List.mem_range.mp (List.mem_filter.mp (List.getElem_mem hj)).1
def cp3 (f s : Nat → Int32) (c k : Nat) : Nat → Nat → Int32
  | 0 => f
  | i + 1 => upd (cp3 f s c k i) (3 * c + i) (s (3 * k + i))
theorem cp3_ge {f s : Nat → Int32} {c k : Nat} (hc : c ≤ k) (hf : ∀ x, 3 * k ≤ x → f x = s x) : ∀ i, i ≤ 3 → ∀ x, 3 * k ≤ x → cp3 f s c k i x = s x
  | 0, _, x, hx => hf x hx
  | i + 1, hi, x, hx => by
    show upd (cp3 f s c k i) (3 * c + i) (s (3 * k + i)) x = s x
    by_cases h : x = 3 * c + i
    · rw [h, upd_eq, show 3 * k + i = 3 * c + i by omega]
    · rw [upd_ne h]
      exact cp3_ge hc hf i (by omega) x hx
theorem cp3_lt {f s : Nat → Int32} {c k : Nat} : ∀ i, ∀ x, x < 3 * c → cp3 f s c k i x = f x
  | 0, _, _ => rfl
  | i + 1, x, hx => by
    show upd (cp3 f s c k i) (3 * c + i) (s (3 * k + i)) x = f x
    rw [upd_ne (by omega)]
    exact cp3_lt i x hx
theorem cp3_in {f s : Nat → Int32} {c k j : Nat} : ∀ i, j < i → cp3 f s c k i (3 * c + j) = s (3 * k + j)
  | 0, h => absurd h (Nat.not_lt_zero _)
  | i + 1, h => by
    show upd (cp3 f s c k i) (3 * c + i) (s (3 * k + i)) (3 * c + j) = s (3 * k + j)
    by_cases hj : j = i
    · rw [hj, upd_eq]
    · rw [upd_ne (by omega)]
      exact cp3_in i (by omega)
/-- the planned changes name slots that are there, as they stand in the model -/
def chS (g : Nat → Nat → Int32) (n np : Nat) : Prop := ∀ k, k < np → ∃ s, s < 6 * n ∧ g 11 k = nI s
theorem chS.ok {g : Nat → Nat → Int32} {n np : Nat} (h : chS g n np) (hn : n ≤ 8) : chOK g n np := fun k hk => by
  obtain ⟨s, h1, h2⟩ := h k hk
  rw [h2, cl_nI (by omega)]
  exact h1
/-- after k changes: which are kept, the prices set -/
def chM (g g1 : Nat → Nat → Int32) (k c : Nat) : Prop := (∀ t, t ≠ 6 → t ≠ 21 → g1 t = g t) ∧ g1 6 = cpG g k 6 ∧ c = (kpt g k).length ∧ (∀ j, j < c → ∀ i, i < 3 → g1 21 (3 * j + i) = g 21 (3 * (kpt g k).getD j 0 + i)) ∧ ∀ x, 3 * k ≤ x → g1 21 x = g 21 x
theorem chM_0 (g : Nat → Nat → Int32) : chM g g 0 0 := ⟨fun _ _ _ => rfl, rfl, rfl, fun _ h => absurd h (Nat.not_lt_zero _), fun _ _ => rfl⟩
theorem chM.le {g g1 : Nat → Nat → Int32} {k c : Nat} (h : chM g g1 k c) : c ≤ k := by rw [h.2.2.1]; exact kpt_le g k
theorem chM_at {g g1 : Nat → Nat → Int32} {k c np : Nat} (h : chM g g1 k c) (hP : plOK g np) (hk : k < np) : g1 21 (3 * k) = g 10 k ∧ g1 21 (3 * k + 1) = g 11 k ∧ g1 21 (3 * k + 2) = g 12 k ∧ g1 13 0 = g 13 0 := by
  obtain ⟨p1, p2, p3⟩ := hP k hk
  exact ⟨(h.2.2.2.2 _ (by omega)).trans p1, (h.2.2.2.2 _ (by omega)).trans p2, (h.2.2.2.2 _ (by omega)).trans p3, congrFun (h.1 13 (by omega) (by omega)) 0⟩
theorem chM_drop {g g1 : Nat → Nat → Int32} {k c : Nat} (h : chM g g1 k c) (hd : g 10 k = g 13 0) : chM g (va_up g1 6 (upd (g1 6) (cl (g 11 k)) (g 12 k))) (k + 1) c := by
  obtain ⟨h1, h2, h3, h4, h5⟩ := h
  refine ⟨fun t a b => ?_, ?_, ?_, fun j hj i hi => ?_, fun x hx => ?_⟩
  · rw [up_ne a, h1 t a b]
  · rw [up_eq, h2, show cpG g (k + 1) = _ from if_pos hd, up_eq]
  · rw [kpt_no hd, h3]
  · rw [up_ne (by omega), kpt_no hd, h4 j hj i hi]
  · rw [up_ne (by omega), h5 x (by omega)]
theorem chM_keep {g g1 g2 : Nat → Nat → Int32} {k c : Nat} (h : chM g g1 k c) (hd : ¬ g 10 k = g 13 0) (h2t : ∀ t, t ≠ 21 → g2 t = g1 t) (h21 : g2 21 = cp3 (g1 21) (g 21) c k 3) : chM g g2 (k + 1) (c + 1) := by
  have hle := h.le
  obtain ⟨h1, h2, h3, h4, h5⟩ := h
  refine ⟨fun t a b => ?_, ?_, ?_, fun j hj i hi => ?_, fun x hx => ?_⟩
  · rw [h2t t b, h1 t a b]
  · rw [h2t 6 (by omega), h2, show cpG g (k + 1) = _ from if_neg hd]
  · rw [kpt_yes hd, List.length_append, ← h3]
    rfl
  · rw [h21, kpt_yes hd]
    by_cases hj2 : j = c
    · have e : (kpt g k ++ [k]).getD j 0 = k := by
        rw [hj2, h3]
        simp [List.getD]
      rw [e, hj2]
      exact cp3_in 3 hi
    · have hj3 : j < c := by omega
      have e : (kpt g k ++ [k]).getD j 0 = (kpt g k).getD j 0 := by
        unfold List.getD
        rw [List.getElem?_append_left (by rw [← h3]; exact hj3)]
      rw [e, cp3_lt 3 _ (by omega)]
      exact h4 j hj3 i hi
  · rw [h21]
    exact cp3_ge hle h5 3 (by omega) x (by omega)
/-- only the rows that the model has are looked at -/
theorem yW.gh {D : va_G} {cA : Nat → ClassId} {b : Nat → Nat} {g g' : Nat → Nat → Int32} {tt : Nat → Int64} {n np : Nat} {H : Heap} (h : yW D cA b g tt n np H) (e : ∀ t, t < 10 ∨ t = 13 ∨ 20 ≤ t → g' t = g t) : yW D cA b g' tt n np H := by
  have e0 := e 0 (by omega)
  have e1 := e 1 (by omega)
  have e2 := e 2 (by omega)
  have e3 := e 3 (by omega)
  have e4 := e 4 (by omega)
  have e5 := e 5 (by omega)
  have e6 := e 6 (by omega)
  have e7 := e 7 (by omega)
  have e8 := e 8 (by omega)
  have e9 := e 9 (by omega)
  have e13 := e 13 (by omega)
  have e20 := e 20 (by omega)
  have e21 := e 21 (by omega)
  have e22 := e 22 (by omega)
  have k : ∀ j, j < 14 → yC cA b g' tt n np j = yC cA b g tt n np j := y14 (by simp only [yC]; rw [e20, e13]) (by simp only [yC]; rw [e0]) (by simp only [yC]; rw [e1]) (by simp only [yC]; rw [e2]) (by simp only [yC]; rw [e3]) (by simp only [yC]; rw [e4]) (by simp only [yC]; rw [e5]) (by simp only [yC]; rw [e6]) (by simp only [yC]; rw [e7]) (by simp only [yC]; rw [e8]) (by simp only [yC]; rw [e9]) (by simp only [yC]; rw [e21]) rfl (by simp only [yC]; rw [e22])
  intro j hj
  rw [k j hj]
  exact h j hj
/-- the changes' end, said as the class has it -/
theorem chM_end {g g1 : Nat → Nat → Int32} {np c n : Nat} (h : chM g g1 np c) (hP : plOK g np) (hC : chS g n np) : ∃ g2, (∀ t, t < 10 ∨ t = 13 ∨ 20 ≤ t → g2 t = g1 t) ∧ eqT (chG (cpG g np) (kpt g np)) g2 ∧ plOK g2 (kpt g np).length ∧ chS g2 n (kpt g np).length ∧ g2 20 = g 20 := by
  obtain ⟨h1, h2, h3, h4, h5⟩ := h
  have a10 : cpG g np 10 = g 10 := cpG_t g (by omega) np
  have a11 : cpG g np 11 = g 11 := cpG_t g (by omega) np
  have a12 : cpG g np 12 = g 12 := cpG_t g (by omega) np
  have b10 : va_up (va_up (va_up g1 10 (fun j => g 10 ((kpt g np).getD j 0))) 11 (fun j => g 11 ((kpt g np).getD j 0))) 12 (fun j => g 12 ((kpt g np).getD j 0)) 10 = fun j => g 10 ((kpt g np).getD j 0) := by rw [up_ne (by omega), up_ne (by omega), up_eq]
  have b11 : va_up (va_up (va_up g1 10 (fun j => g 10 ((kpt g np).getD j 0))) 11 (fun j => g 11 ((kpt g np).getD j 0))) 12 (fun j => g 12 ((kpt g np).getD j 0)) 11 = fun j => g 11 ((kpt g np).getD j 0) := by rw [up_ne (by omega), up_eq]
  have b12 : va_up (va_up (va_up g1 10 (fun j => g 10 ((kpt g np).getD j 0))) 11 (fun j => g 11 ((kpt g np).getD j 0))) 12 (fun j => g 12 ((kpt g np).getD j 0)) 12 = fun j => g 12 ((kpt g np).getD j 0) := by rw [up_eq]
  have bt : ∀ t, t ≠ 10 → t ≠ 11 → t ≠ 12 → va_up (va_up (va_up g1 10 (fun j => g 10 ((kpt g np).getD j 0))) 11 (fun j => g 11 ((kpt g np).getD j 0))) 12 (fun j => g 12 ((kpt g np).getD j 0)) t = g1 t := fun t a b c => by rw [up_ne c, up_ne b, up_ne a]
  refine ⟨_, fun t ht => bt t (by omega) (by omega) (by omega), fun t ht => ?_, fun j hj => ?_, fun j hj => ?_, ?_⟩
  · by_cases t10 : t = 10
    · rw [t10, b10, chG_10, a10]
    · by_cases t11 : t = 11
      · rw [t11, b11, chG_11, a11]
      · by_cases t12 : t = 12
        · rw [t12, b12, chG_12, a12]
        · rw [bt t t10 t11 t12, chG_t _ _ t10 t11 t12]
          by_cases t6 : t = 6
          · rw [t6, h2]
          · rw [h1 t t6 (by omega), cpG_t g t6 np]
  · rw [b10, b11, b12, bt 21 (by omega) (by omega) (by omega)]
    have hj2 : j < c := by rw [h3]; exact hj
    obtain ⟨p1, p2, p3⟩ := hP _ (kpt_lt hj)
    exact ⟨(h4 j hj2 0 (by omega)).trans p1, (h4 j hj2 1 (by omega)).trans p2, (h4 j hj2 2 (by omega)).trans p3⟩
  · rw [b11]
    exact hC _ (kpt_lt hj)
  · rw [bt 20 (by omega) (by omega) (by omega), h1 20 (by omega) (by omega)]
theorem dy_t (g : Nat → Nat → Int32) (m : Nat) {t : Nat} (h5 : t ≠ 5) (h1 : t ≠ 1) (h8 : t ≠ 8) (h9 : t ≠ 9) (h13 : t ≠ 13) : dyG g m t = g t := by
  unfold dyG
  rw [up_ne h13]
  exact so_t g 0 h5 h1 h8 h9 _
theorem plOK_c {g g' : Nat → Nat → Int32} {np : Nat} (h : plOK g np) (h21 : g' 21 = g 21) (h10 : g' 10 = g 10) (h11 : g' 11 = g 11) (h12 : g' 12 = g 12) : plOK g' np := by
  unfold plOK
  rw [h21, h10, h11, h12]
  exact h
