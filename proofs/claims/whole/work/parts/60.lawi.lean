/-! What holds between the law's calls holds behind each of them. -/
section LIs
variable {D : va_G} {cA : Nat → ClassId} {e0 h0 x0 o : Nat} {bm : Nat → Nat} {ad ad2 : Nat → Nat → Nat} {g g1 g2 : Nat → Nat → Int32} {tt : Nat → Int64} {N : Nat → Nat} {H H1 : Heap}
/-- a call that changes nothing that both sides see -/
theorem LI_eqY (h : LI D cA e0 h0 x0 o bm ad g tt N H) (hX : xW D cA ad g1 tt N H1) (hsv : ∀ t, t ≠ 14 → t ≠ 15 → t ≠ 16 → g1 t = g t) (hY : yW D cA bm g2 tt (N 0) (N 1) H1) (he : ∀ t, t ≠ 20 → t ≠ 22 → g2 t = g t) (hO : ∃ f, outW D cA o f H1) : LI D cA e0 h0 x0 o bm ad (mixG g1 g2) tt N H1 := by
  obtain ⟨-, hA, -, hI, hW, hdf, hN, hdy, hP, hC, -, hx⟩ := h
  refine LI_mk hX hA hY rfl rfl (fun t ht => by rw [hsv t (by omega) (by omega) (by omega), he t (by omega) (by omega)]) (inv_c hI (hsv 4 (by omega) (by omega) (by omega)) (hsv 5 (by omega) (by omega) (by omega)) (hsv 7 (by omega) (by omega) (by omega))) (hwAll_c (hsv 3 (by omega) (by omega) (by omega)) (hsv 17 (by omega) (by omega) (by omega)) hW) (fun k => ?_) hN ?_ (fun k hk => ?_) (fun k hk => ?_) hO hx
  · rw [hsv 1 (by omega) (by omega) (by omega), hsv 2 (by omega) (by omega) (by omega), hsv 4 (by omega) (by omega) (by omega), hsv 5 (by omega) (by omega) (by omega), hsv 6 (by omega) (by omega) (by omega), hsv 7 (by omega) (by omega) (by omega), hsv 8 (by omega) (by omega) (by omega), hsv 9 (by omega) (by omega) (by omega)]
    exact hdf k
  · rw [hsv 13 (by omega) (by omega) (by omega)]
    exact hdy
  · rw [he 21 (by omega) (by omega), hsv 10 (by omega) (by omega) (by omega), hsv 11 (by omega) (by omega) (by omega), hsv 12 (by omega) (by omega) (by omega)]
    exact hP k hk
  · rw [hsv 11 (by omega) (by omega) (by omega)]
    exact hC k hk
theorem LI_am {v : Int32} (h : LI D cA e0 h0 x0 o bm ad g tt N H) (hX : xW D cA ad2 g1 tt (amN' N) H1) (hA2 : xA (cF h0 o bm) e0 ad2 (amN' N)) (hx2 : ad2 0 0 = ad 0 0) (hg : ∀ t, t ≠ 17 → g1 t = amG g (N 0) v t) (hw : hwAll g1 (N 0 + 1)) (hY : yW D cA bm g2 tt (N 0 + 1) (N 1) H1) (he : eqY (va_up g 0 (upd (g 0) (N 0) v)) g2 0) (hO : ∃ f, outW D cA o f H1) : LI D cA e0 h0 x0 o bm ad2 (mixG g1 g2) tt (amN' N) H1 := by
  obtain ⟨-, hA, -, hI, hW, hdf, hN, hdy, hP, hC, -, hx⟩ := h
  have e : ∀ t, t ≠ 0 → t ≠ 17 → t ≠ 18 → g1 t = g t := fun t a b c => by rw [hg t b, amG_t g (N 0) v a c]
  have f : ∀ t, t ≠ 0 → t ≠ 20 → t ≠ 22 → g2 t = g t := fun t a b c => by rw [he.1 t b c, up_ne a]
  refine LI_mk hX hA2 hY amN_0 amN_1 (fun t ht => ?_) (fun k hk => ?_) ?_ (fun k => ?_) (Or.inr amN_2) ?_ (fun k hk => ?_) (fun k hk => ?_) hO (hx2.trans hx)
  · by_cases h0 : t = 0
    · rw [h0, hg 0 (by omega), amG_0, he.1 0 (by omega) (by omega), up_eq]
    · rw [e t h0 (by omega) (by omega), f t h0 (by omega) (by omega)]
  · rw [amN_0] at hk
    rw [e 4 (by omega) (by omega) (by omega), e 5 (by omega) (by omega) (by omega), e 7 (by omega) (by omega) (by omega)]
    by_cases hk2 : k < 6 * N 0
    · exact hI k hk2
    · obtain ⟨d4, d5, -, d7, -, -⟩ := (hdf k).2 (by omega)
      exact ⟨0, 0, 0, d4.trans nI_0.symm, d5.trans nI_0.symm, d7.trans nI_0.symm, by omega, by omega, by omega⟩
  · rw [amN_0]
    exact hw
  · rw [amN_0, e 1 (by omega) (by omega) (by omega), e 2 (by omega) (by omega) (by omega), e 4 (by omega) (by omega) (by omega), e 5 (by omega) (by omega) (by omega), e 6 (by omega) (by omega) (by omega), e 7 (by omega) (by omega) (by omega), e 8 (by omega) (by omega) (by omega), e 9 (by omega) (by omega) (by omega)]
    exact ⟨fun z => (hdf k).1 (by omega), fun z => (hdf k).2 (by omega)⟩
  · rw [e 13 (by omega) (by omega) (by omega)]
    exact hdy
  · rw [f 21 (by omega) (by omega) (by omega), e 10 (by omega) (by omega) (by omega), e 11 (by omega) (by omega) (by omega), e 12 (by omega) (by omega) (by omega)]
    exact hP k hk
  · rw [amN_1] at hk
    rw [amN_0, e 11 (by omega) (by omega) (by omega)]
    obtain ⟨s, h1, h2⟩ := hC k hk
    exact ⟨s, by omega, h2⟩
theorem LI_sm {F : Nat → Int32} (h : LI D cA e0 h0 x0 o bm ad g tt N H) (hX : xW D cA ad g1 tt N H1) (hg : ∀ t, t ≠ 17 → g1 t = va_up g 3 F t) (hw : hwAll g1 (N 0)) (hY : yW D cA bm g2 tt (N 0) (N 1) H1) (he : eqY (va_up g 3 F) g2 0) (hO : ∃ f, outW D cA o f H1) : LI D cA e0 h0 x0 o bm ad (mixG g1 g2) tt N H1 := by
  obtain ⟨-, hA, -, hI, hW, hdf, hN, hdy, hP, hC, -, hx⟩ := h
  have e : ∀ t, t ≠ 3 → t ≠ 17 → g1 t = g t := fun t a b => by rw [hg t b, up_ne a]
  refine LI_mk hX hA hY rfl rfl (fun t ht => by rw [hg t (by omega), he.1 t (by omega) (by omega)]) (inv_c hI (e 4 (by omega) (by omega)) (e 5 (by omega) (by omega)) (e 7 (by omega) (by omega))) hw (fun k => ?_) hN ?_ (fun k hk => ?_) (fun k hk => ?_) hO hx
  · rw [e 1 (by omega) (by omega), e 2 (by omega) (by omega), e 4 (by omega) (by omega), e 5 (by omega) (by omega), e 6 (by omega) (by omega), e 7 (by omega) (by omega), e 8 (by omega) (by omega), e 9 (by omega) (by omega)]
    exact hdf k
  · rw [e 13 (by omega) (by omega)]
    exact hdy
  · rw [he.1 21 (by omega) (by omega), up_ne (by omega), e 10 (by omega) (by omega), e 11 (by omega) (by omega), e 12 (by omega) (by omega)]
    exact hP k hk
  · rw [e 11 (by omega) (by omega)]
    exact hC k hk
theorem ssF_4 (g : Nat → Nat → Int32) (k : Nat) (c d : Int32) : ssF g k c d 4 = upd (g 4) k c := by
  unfold ssF
  rw [up_ne (by omega), up_ne (by omega), up_eq]
theorem ssF_5 (g : Nat → Nat → Int32) (k : Nat) (c d : Int32) : ssF g k c d 5 = upd (g 5) k (mnI (g 5 k) c) := by
  unfold ssF
  rw [up_ne (by omega), up_eq, up_ne (by omega)]
theorem ssF_7 (g : Nat → Nat → Int32) (k : Nat) (c d : Int32) : ssF g k c d 7 = upd (g 7) k d := by
  unfold ssF
  rw [up_eq, up_ne (by omega), up_ne (by omega)]
theorem ssF_t (g : Nat → Nat → Int32) (k : Nat) (c d : Int32) {t : Nat} (h4 : t ≠ 4) (h5 : t ≠ 5) (h7 : t ≠ 7) : ssF g k c d t = g t := by
  unfold ssF
  rw [up_ne h7, up_ne h5, up_ne h4]
theorem LI_ss {K : Nat} {c d : Int32} (h : LI D cA e0 h0 x0 o bm ad g tt N H) (hK : K < 6 * N 0) (hc : okR 0 30 c) (hd : okR 0 20 d) (hX : xW D cA ad (ssF g K c d) tt N H1) (hY : yW D cA bm g2 tt (N 0) (N 1) H1) (he : eqY (ssF g K c d) g2 0) (hO : ∃ f, outW D cA o f H1) : LI D cA e0 h0 x0 o bm ad (mixG (ssF g K c d) g2) tt N H1 := by
  obtain ⟨-, hA, -, hI, hW, hdf, hN, hdy, hP, hC, -, hx⟩ := h
  have e : ∀ t, t ≠ 4 → t ≠ 5 → t ≠ 7 → ssF g K c d t = g t := fun t a b z => ssF_t g K c d a b z
  refine LI_mk hX hA hY rfl rfl (fun t ht => (he.1 t (by omega) (by omega)).symm) (fun k hk => ?_) (hwAll_c (e 3 (by omega) (by omega) (by omega)) (e 17 (by omega) (by omega) (by omega)) hW) (fun k => ?_) hN ?_ (fun k hk => ?_) (fun k hk => ?_) hO hx
  · rw [ssF_4, ssF_5, ssF_7]
    obtain ⟨a1, a2, a3, h4, h5, h7, b1, b2, b3⟩ := hI k hk
    by_cases hk2 : k = K
    · subst hk2
      obtain ⟨c1, -, c2, rfl⟩ := hc
      obtain ⟨d1, -, d2, rfl⟩ := hd
      rw [upd_eq, upd_eq, upd_eq, h5]
      refine ⟨c1, min a2 c1, d1, rfl, ?_, rfl, by omega, by omega, by omega⟩
      exact mn_nI (a := a2) (b := c1) (by omega) (by omega)
    · rw [upd_ne hk2, upd_ne hk2, upd_ne hk2]
      exact ⟨a1, a2, a3, h4, h5, h7, b1, b2, b3⟩
  · rw [ssF_4, ssF_5, ssF_7, e 1 (by omega) (by omega) (by omega), e 2 (by omega) (by omega) (by omega), e 6 (by omega) (by omega) (by omega), e 8 (by omega) (by omega) (by omega), e 9 (by omega) (by omega) (by omega)]
    refine ⟨(hdf k).1, fun z => ?_⟩
    rw [upd_ne (by omega), upd_ne (by omega), upd_ne (by omega)]
    exact (hdf k).2 z
  · rw [e 13 (by omega) (by omega) (by omega)]
    exact hdy
  · rw [he.1 21 (by omega) (by omega), e 21 (by omega) (by omega) (by omega), e 10 (by omega) (by omega) (by omega), e 11 (by omega) (by omega) (by omega), e 12 (by omega) (by omega) (by omega)]
    exact hP k hk
  · rw [e 11 (by omega) (by omega) (by omega)]
    exact hC k hk
theorem LI_p0 {K : Nat} {y : Int32} (h : LI D cA e0 h0 x0 o bm ad g tt N H) (hK : K < 6 * N 0) (hX : xW D cA ad (va_up g 6 (upd (g 6) K y)) tt N H1) (hY : yW D cA bm g2 tt (N 0) (N 1) H1) (he : eqY (va_up g 6 (upd (g 6) K y)) g2 0) (hO : ∃ f, outW D cA o f H1) : LI D cA e0 h0 x0 o bm ad (mixG (va_up g 6 (upd (g 6) K y)) g2) tt N H1 := by
  obtain ⟨-, hA, -, hI, hW, hdf, hN, hdy, hP, hC, -, hx⟩ := h
  have e : ∀ t, t ≠ 6 → va_up g 6 (upd (g 6) K y) t = g t := fun t a => up_ne a
  refine LI_mk hX hA hY rfl rfl (fun t ht => (he.1 t (by omega) (by omega)).symm) (inv_c hI (e 4 (by omega)) (e 5 (by omega)) (e 7 (by omega))) (hwAll_c (e 3 (by omega)) (e 17 (by omega)) hW) (fun k => ?_) hN ?_ (fun k hk => ?_) (fun k hk => ?_) hO hx
  · rw [e 1 (by omega), e 2 (by omega), e 4 (by omega), e 5 (by omega), e 7 (by omega), e 8 (by omega), e 9 (by omega), up_eq]
    refine ⟨(hdf k).1, fun z => ?_⟩
    rw [upd_ne (by omega)]
    exact (hdf k).2 z
  · rw [e 13 (by omega)]
    exact hdy
  · rw [he.1 21 (by omega) (by omega), e 21 (by omega), e 10 (by omega), e 11 (by omega), e 12 (by omega)]
    exact hP k hk
  · rw [e 11 (by omega)]
    exact hC k hk
theorem plN_0 {k : Nat} : plN' N k 0 = N 0 := by unfold plN'; rw [up_ne (by omega), up_ne (by omega)]
theorem plN_1 {k : Nat} : plN' N k 1 = N 1 + 1 := by unfold plN'; rw [up_ne (by omega), up_eq]
theorem plN_2 {k : Nat} : plN' N k 2 = N 2 := by unfold plN'; rw [up_ne (by omega), up_ne (by omega)]
theorem plA_00 {n q d2 : Nat} : plA ad n q d2 0 0 = ad 0 0 := by unfold plA; rw [up_eq, up_ne (show 0 ≠ 10 by omega)]
theorem LI_p1 {K q d2 kk : Nat} {x y : Int32} (h : LI D cA e0 h0 x0 o bm ad g tt N H) (hK : K < 6 * N 0) (hX : xW D cA (plA ad (N 1) q d2) (plG g (N 1) x (nI K) y) tt (plN' N kk) H1) (hA2 : xA (cF h0 o bm) e0 (plA ad (N 1) q d2) (plN' N kk)) (hY : yW D cA bm g2 tt (N 0) (N 1 + 1) H1) (he : eqP g g2 0) (h21 : g2 21 = p3F (g 21) (N 1) x (nI K) y) (hO : ∃ f, outW D cA o f H1) : LI D cA e0 h0 x0 o bm (plA ad (N 1) q d2) (mixG (plG g (N 1) x (nI K) y) g2) tt (plN' N kk) H1 := by
  obtain ⟨-, hA, -, hI, hW, hdf, hN, hdy, hP, hC, -, hx⟩ := h
  have e : ∀ t, t ≠ 10 → t ≠ 11 → t ≠ 12 → t ≠ 18 → plG g (N 1) x (nI K) y t = g t := fun t a b c d => plG_t g (N 1) x (nI K) y a b c d
  refine LI_mk hX hA2 hY plN_0 plN_1 (fun t ht => by rw [e t (by omega) (by omega) (by omega) (by omega), he.1 t (by omega) (by omega) (by omega)]) ?_ ?_ (fun k => ?_) ?_ ?_ (fun k hk => ?_) (fun k hk => ?_) hO (plA_00.trans hx)
  · rw [plN_0]
    exact inv_c hI (e 4 (by omega) (by omega) (by omega) (by omega)) (e 5 (by omega) (by omega) (by omega) (by omega)) (e 7 (by omega) (by omega) (by omega) (by omega))
  · rw [plN_0]
    exact hwAll_c (e 3 (by omega) (by omega) (by omega) (by omega)) (e 17 (by omega) (by omega) (by omega) (by omega)) hW
  · rw [plN_0, e 1 (by omega) (by omega) (by omega) (by omega), e 2 (by omega) (by omega) (by omega) (by omega), e 4 (by omega) (by omega) (by omega) (by omega), e 5 (by omega) (by omega) (by omega) (by omega), e 6 (by omega) (by omega) (by omega) (by omega), e 7 (by omega) (by omega) (by omega) (by omega), e 8 (by omega) (by omega) (by omega) (by omega), e 9 (by omega) (by omega) (by omega) (by omega)]
    exact hdf k
  · rw [plN_2]
    exact hN
  · rw [e 13 (by omega) (by omega) (by omega) (by omega)]
    exact hdy
  · rw [h21, plG_10, plG_11, plG_12]
    unfold p3F
    by_cases hk2 : k = N 1
    · subst hk2
      refine ⟨?_, ?_, ?_⟩
      · rw [upd_ne (by omega), upd_ne (by omega), upd_eq, upd_eq]
      · rw [upd_ne (by omega), upd_eq, upd_eq]
      · rw [upd_eq, upd_eq]
    · rw [upd_ne (show 3 * k ≠ 3 * N 1 + 2 by omega), upd_ne (show 3 * k ≠ 3 * N 1 + 1 by omega), upd_ne (show 3 * k ≠ 3 * N 1 by omega), upd_ne (show 3 * k + 1 ≠ 3 * N 1 + 2 by omega), upd_ne (show 3 * k + 1 ≠ 3 * N 1 + 1 by omega), upd_ne (show 3 * k + 1 ≠ 3 * N 1 by omega), upd_ne (show 3 * k + 2 ≠ 3 * N 1 + 2 by omega), upd_ne (show 3 * k + 2 ≠ 3 * N 1 + 1 by omega), upd_ne (show 3 * k + 2 ≠ 3 * N 1 by omega), upd_ne hk2, upd_ne hk2, upd_ne hk2]
      exact hP k (by omega)
  · rw [plN_1] at hk
    rw [plN_0, plG_11]
    by_cases hk2 : k = N 1
    · subst hk2
      exact ⟨K, hK, upd_eq⟩
    · rw [upd_ne hk2]
      exact hC k (by omega)
end LIs
/-! days -/
theorem ps_t {m : Nat} {g : Nat → Nat → Int32} {n t : Nat} (h1 : t ≠ 1) (h5 : t ≠ 5) (h6 : t ≠ 6) (h8 : t ≠ 8) (h9 : t ≠ 9) (h10 : t ≠ 10) (h11 : t ≠ 11) (h12 : t ≠ 12) (h13 : t ≠ 13) (k : Nat) : (psS m g n k).1 t = g t := by
  induction k with
  | zero => rfl
  | succ k ih =>
    show chG (cpG (dyG (psS m g n k).1 m) (psS m g n k).2.1) (dyL (psS m g n k).1 m (psS m g n k).2.1) t = g t
    rw [chG_t _ _ h10 h11 h12, cpG_t _ h6, dy_t _ m h5 h1 h8 h9 h13, ih]
theorem ps_day {m : Nat} {g : Nat → Nat → Int32} {n d0 : Nat} (hd : g 13 0 = nI d0) (k : Nat) : (psS m g n k).1 13 0 = nI (d0 + k) := by
  induction k with
  | zero => exact hd
  | succ k ih =>
    show chG (cpG (dyG (psS m g n k).1 m) (psS m g n k).2.1) (dyL (psS m g n k).1 m (psS m g n k).2.1) 13 0 = nI (d0 + (k + 1))
    rw [chG_t _ _ (by omega) (by omega) (by omega), cpG_t _ (by omega)]
    unfold dyG
    rw [up_eq, upd_eq, so_t _ 0 (by omega) (by omega) (by omega) (by omega), ih, nI_add]
    rfl
theorem sfF_hi (g : Nat → Nat → Int32) {i k m : Nat} (hk : k < 6 * m) (hi : i < m) (j : Nat) : (m ≤ j → sfF g i k 1 j = g 1 j) ∧ (6 * m ≤ j → sfF g i k 5 j = g 5 j ∧ sfF g i k 8 j = g 8 j ∧ sfF g i k 9 j = g 9 j) := by
  have a1 : sfF g i k 1 = upd (g 1) i (slS (g 6 k) (g 0 i) (g 5 k) (g 1 i) (cl (g 7 k))).2.1 := by
    unfold sfF sfG
    rw [up_ne (by omega), up_ne (by omega), slG_1]
  have a5 : sfF g i k 5 = upd (g 5) k (slS (g 6 k) (g 0 i) (g 5 k) (g 1 i) (cl (g 7 k))).1 := by
    unfold sfF sfG
    rw [up_ne (by omega), up_ne (by omega), slG_5]
  have a8 : sfF g i k 8 = upd (g 8) k (g 8 k + nI (cntF g i k)) := by
    unfold sfF
    rw [up_ne (by omega), up_eq]
  have a9 : sfF g i k 9 = upd (g 9) k (g 9 k + (g 7 k - nI (cntF g i k))) := by
    unfold sfF
    rw [up_eq]
  rw [a1, a5, a8, a9]
  exact ⟨fun z => upd_ne (by omega), fun z => ⟨upd_ne (by omega), upd_ne (by omega), upd_ne (by omega)⟩⟩
theorem so_dfl {g : Nat → Nat → Int32} {m : Nat} (h : dfl g m) (j : Nat) (hj : j ≤ 6 * m) : dfl (so g 0 j).1 m := by
  induction j with
  | zero => exact h
  | succ j ih =>
    have ih := ih (by omega)
    rw [so_0s]
    intro k
    obtain ⟨i1, i2⟩ := ih k
    obtain ⟨b1, b2⟩ := sfF_hi (so g 0 j).1 (i := j / 6) (k := j) (m := m) (by omega) (by omega) k
    show (m ≤ k → sfF (so g 0 j).1 (j / 6) j 1 k = 0 ∧ sfF (so g 0 j).1 (j / 6) j 2 k = 0) ∧ (6 * m ≤ k → sfF (so g 0 j).1 (j / 6) j 4 k = 0 ∧ sfF (so g 0 j).1 (j / 6) j 5 k = 0 ∧ sfF (so g 0 j).1 (j / 6) j 6 k = nI 100 ∧ sfF (so g 0 j).1 (j / 6) j 7 k = 0 ∧ sfF (so g 0 j).1 (j / 6) j 8 k = 0 ∧ sfF (so g 0 j).1 (j / 6) j 9 k = 0)
    rw [sfF_t _ _ _ (show 2 ≠ 5 by omega) (by omega) (by omega) (by omega), sfF_t _ _ _ (show 4 ≠ 5 by omega) (by omega) (by omega) (by omega), sfF_t _ _ _ (show 6 ≠ 5 by omega) (by omega) (by omega) (by omega), sfF_t _ _ _ (show 7 ≠ 5 by omega) (by omega) (by omega) (by omega)]
    refine ⟨fun z => ?_, fun z => ?_⟩
    · rw [b1 z]
      exact i1 z
    · obtain ⟨c5, c8, c9⟩ := b2 z
      rw [c5, c8, c9]
      exact i2 z
theorem dfl_c {g g1 : Nat → Nat → Int32} {m : Nat} (h : dfl g m) (e : ∀ t, t = 1 ∨ t = 2 ∨ t = 4 ∨ t = 5 ∨ t = 7 ∨ t = 8 ∨ t = 9 → g1 t = g t) (e6 : ∀ k, 6 * m ≤ k → g1 6 k = g 6 k) : dfl g1 m := fun k => by
  rw [e 1 (by omega), e 2 (by omega), e 4 (by omega), e 5 (by omega), e 7 (by omega), e 8 (by omega), e 9 (by omega)]
  refine ⟨(h k).1, fun z => ?_⟩
  rw [e6 k z]
  exact (h k).2 z
theorem cp_hi {g : Nat → Nat → Int32} {m : Nat} : ∀ n, chOK g m n → ∀ j, 6 * m ≤ j → cpG g n 6 j = g 6 j
  | 0, _, _, _ => rfl
  | k + 1, h, j, hj => by
    have ih := cp_hi k (fun i hi => h i (by omega)) j hj
    by_cases hc : g 10 k = g 13 0
    · rw [show cpG g (k + 1) = _ from if_pos hc, up_eq, upd_ne (by have := h k (by omega); omega)]
      exact ih
    · rw [show cpG g (k + 1) = _ from if_neg hc]
      exact ih
theorem ps_dfl {m : Nat} {g : Nat → Nat → Int32} {n : Nat} (h : dfl g m) (hC : chOK g m n) (k : Nat) : dfl (psS m g n k).1 m := by
  induction k with
  | zero => exact h
  | succ k ih =>
    show dfl (chG (cpG (dyG (psS m g n k).1 m) (psS m g n k).2.1) (dyL (psS m g n k).1 m (psS m g n k).2.1)) m
    have h1 : dfl (dyG (psS m g n k).1 m) m := dfl_c (so_dfl ih (6 * m) (Nat.le_refl _)) (fun t ht => by unfold dyG; rw [up_ne (by omega)]) (fun j hj => by unfold dyG; rw [up_ne (by omega)])
    have h2 : chOK (dyG (psS m g n k).1 m) m (psS m g n k).2.1 := fun j hj => by
      rw [dyG_11]
      exact ps_ok hC k j hj
    refine dfl_c h1 (fun t ht => ?_) (fun j hj => ?_)
    · rw [chG_t _ _ (by omega) (by omega) (by omega), cpG_t _ (by omega)]
    · rw [chG_t _ _ (by omega) (by omega) (by omega)]
      exact cp_hi _ h2 j hj
section LId
variable {D : va_G} {cA : Nat → ClassId} {e0 h0 x0 o : Nat} {bm : Nat → Nat} {ad ad2 : Nat → Nat → Nat} {g g1 g2 : Nat → Nat → Int32} {tt tt2 : Nat → Int64} {N N2 : Nat → Nat} {H H1 : Heap}
theorem LI_ps {w : Int32} (h : LI D cA e0 h0 x0 o bm ad g tt N H) (hw : okR 1 30 w ∧ sumI (g 13 0) w ≤ 999) (hX : xW D cA ad2 g1 tt N2 H1) (hA2 : xA (cF h0 o bm) e0 ad2 N2) (h4 : eq4 (psS (N 0) g (N 1) (cl w)).1 g1) (hn1 : N2 1 = (psS (N 0) g (N 1) (cl w)).2.1) (hn : ∀ c, c ≠ 1 → N2 c = N c) (ha : ∀ c, c ≠ 4 → ad2 c = ad c) (hY : yW D cA bm g2 tt (N 0) (psS (N 0) g (N 1) (cl w)).2.1 H1) (hT : eqT (psS (N 0) g (N 1) (cl w)).1 g2) (hP2 : plOK g2 (psS (N 0) g (N 1) (cl w)).2.1) (hC2 : chS g2 (N 0) (psS (N 0) g (N 1) (cl w)).2.1) (hO : ∃ f, outW D cA o f H1) : LI D cA e0 h0 x0 o bm ad2 (mixG g1 g2) tt N2 H1 := by
  obtain ⟨-, hA, -, hI, hW, hdf, hN, ⟨d0, hd0, hdd⟩, hP, hC, -, hx⟩ := h
  obtain ⟨⟨w0, hw1, hw2, rfl⟩, hsum⟩ := hw
  have hn8 := hA.n8
  have e : ∀ t, t ≠ 14 → t ≠ 15 → t ≠ 16 → t ≠ 18 → g1 t = (psS (N 0) g (N 1) (cl (nI w0))).1 t := h4
  have ew : cl (nI w0) = w0 := cl_nI (by omega)
  have n0 : N2 0 = N 0 := hn 0 (by omega)
  have q : ∀ t, t < 14 → g1 t = g2 t := fun t ht => by rw [e t (by omega) (by omega) (by omega) (by omega), hT t ht]
  refine LI_mk hX hA2 hY n0 hn1 (fun t ht => q t (by omega)) ?_ ?_ ?_ ?_ ?_ (fun k hk => ?_) ?_ hO (by rw [ha 0 (by omega)]; exact hx)
  · rw [n0]
    exact eq4.iv h4 (ps_iv hI _)
  · rw [n0]
    exact hwAll_c (by rw [e 3 (by omega) (by omega) (by omega) (by omega), ps_t (by omega) (by omega) (by omega) (by omega) (by omega) (by omega) (by omega) (by omega) (by omega)]) (by rw [e 17 (by omega) (by omega) (by omega) (by omega), ps_t (by omega) (by omega) (by omega) (by omega) (by omega) (by omega) (by omega) (by omega) (by omega)]) hW
  · rw [n0]
    exact dfl_c (ps_dfl hdf (hC.ok hn8) (cl (nI w0))) (fun t ht => e t (by omega) (by omega) (by omega) (by omega)) (fun k _ => by rw [e 6 (by omega) (by omega) (by omega) (by omega)])
  · rw [hn 2 (by omega)]
    exact hN
  · unfold sumI at hsum
    rw [hdd, nI_toInt (by omega), nI_toInt (by omega)] at hsum
    exact ⟨d0 + w0, by omega, by rw [e 13 (by omega) (by omega) (by omega) (by omega), ew, ps_day hdd w0]⟩
  · rw [q 10 (by omega), q 11 (by omega), q 12 (by omega)]
    exact hP2 k hk
  · rw [n0, hn1]
    intro k hk
    rw [q 11 (by omega)]
    exact hC2 k hk
/-! a round -/
theorem svG_1 (g : Nat → Nat → Int32) (i : Nat) : svG g i 1 = upd (g 1) i (nI 0) := by unfold svG; rw [up_ne (by omega), up_eq]
theorem svG_2 (g : Nat → Nat → Int32) (i : Nat) : svG g i 2 = upd (g 2) i (g 2 i + nI 1) := by unfold svG; rw [up_eq, up_ne (by omega)]
theorem fu_hi (g : Nat → Nat → Int32) {i L m j : Nat} (hi : i < m) (hj : 6 * m ≤ j) : ∀ k, k ≤ 6 → (fu g i L k).1 5 j = g 5 j := by
  intro k
  induction k with
  | zero => exact fun _ => rfl
  | succ k ih =>
    intro hk
    rw [fu_51, upd_ne (by omega)]
    exact ih (by omega)
theorem svF_dfl {g : Nat → Nat → Int32} {m i : Nat} (tt : Nat → Int64) (L : Nat) (h : dfl g m) (hi : i < m) : dfl (svF g tt i L).1 m := fun k => by
  have a1 : (svF g tt i L).1 1 = upd (g 1) i (nI 0) := (fu_t (svG g i) i L (by omega) 6).trans (svG_1 g i)
  have a2 : (svF g tt i L).1 2 = upd (g 2) i (g 2 i + nI 1) := (fu_t (svG g i) i L (by omega) 6).trans (svG_2 g i)
  rw [a1, a2, svF_t g tt i L (t := 4) (by omega) (by omega) (by omega), svF_t g tt i L (t := 6) (by omega) (by omega) (by omega), svF_t g tt i L (t := 7) (by omega) (by omega) (by omega), svF_t g tt i L (t := 8) (by omega) (by omega) (by omega), svF_t g tt i L (t := 9) (by omega) (by omega) (by omega)]
  refine ⟨fun z => ?_, fun z => ?_⟩
  · rw [upd_ne (by omega), upd_ne (by omega)]
    exact (h k).1 z
  · have a5 : (svF g tt i L).1 5 k = g 5 k := (fu_hi (g := svG g i) (L := L) hi z 6 (by omega)).trans (congrFun (svG_t g i (by omega) (by omega)) k)
    rw [a5]
    exact (h k).2 z
theorem goS_dfl {w : Nat → Nat → Int32} {S n : Nat} {g : Nat → Nat → Int32} (tt : Nat → Int64) (L : Nat) (hn : n ≤ 8) (hS : S < 2 ^ n) (h : dfl g n) (k : Nat) (hk : k ≤ bc S) : dfl (goS w S g tt L k).1 n := by
  induction k with
  | zero => exact h
  | succ k ih =>
    rw [goS_s]
    exact svF_dfl _ _ (ih (by omega)) (vs_next w hn hS (by omega)).2.2.1
theorem LI_go {v x : Int32} {T : Nat → Int64} {gs : Nat → Nat → Int32} (h : LI D cA e0 h0 x0 o bm ad g tt N H) (hv : okT (N 0) v) (hsv : svOK g gs (N 0)) (hX : xW D cA ad (goS (wy g) (cl v) gs T (cl x) (bc (cl v))).1 (goS (wy g) (cl v) gs T (cl x) (bc (cl v))).2.1 N H1) (hY : yW D cA bm g2 (goS (wy g) (cl v) g T (cl x) (bc (cl v))).2.1 (N 0) (N 1) H1) (hT : eqT (goS (wy g) (cl v) g T (cl x) (bc (cl v))).1 g2) (h21 : g2 21 = g 21) (hO : ∃ f, outW D cA o f H1) : LI D cA e0 h0 x0 o bm ad (mixG (goS (wy g) (cl v) gs T (cl x) (bc (cl v))).1 g2) (goS (wy g) (cl v) g T (cl x) (bc (cl v))).2.1 N H1 := by
  obtain ⟨-, hA, -, hI, hW, hdf, hN, hdy, hP, hC, -, hx⟩ := h
  obtain ⟨S, hS, rfl⟩ := hv
  have hn8 := hA.n8
  have h256 := pow256 hn8
  have es : cl (nI S) = S := cl_nI (by omega)
  rw [es] at hX hY hT ⊢
  have hgs : eqT g gs := fun t ht => hsv.1 t (by omega) (by omega) (by omega)
  obtain ⟨d1, d2⟩ := goS_d (wy g) S T (cl x) hgs (bc S)
  rw [d2] at hX
  have e : ∀ t, t ≠ 1 → t ≠ 2 → t ≠ 5 → t ≠ 14 → t ≠ 15 → t ≠ 16 → (goS (wy g) S gs T (cl x) (bc S)).1 t = g t := fun t a b c d e f => by rw [goS_t (wy g) S gs T (cl x) a b c (bc S), hsv.1 t d e f]
  refine LI_mk hX hA hY rfl rfl (fun t ht => by rw [d1 t (by omega), hT t (by omega)]) (goS_iv T (cl x) hn8 hS (eqT.iv hgs hI) (bc S) (Nat.le_refl _)) (hwAll_c (e 3 (by omega) (by omega) (by omega) (by omega) (by omega) (by omega)) (e 17 (by omega) (by omega) (by omega) (by omega) (by omega) (by omega)) hW) (goS_dfl T (cl x) hn8 hS (dfl_c hdf (fun t ht => hgs t (by omega)) (fun k _ => by rw [hgs 6 (by omega)])) (bc S) (Nat.le_refl _)) hN ?_ (fun k hk => ?_) (fun k hk => ?_) hO hx
  · rw [e 13 (by omega) (by omega) (by omega) (by omega) (by omega) (by omega)]
    exact hdy
  · rw [h21, e 10 (by omega) (by omega) (by omega) (by omega) (by omega) (by omega), e 11 (by omega) (by omega) (by omega) (by omega) (by omega) (by omega), e 12 (by omega) (by omega) (by omega) (by omega) (by omega) (by omega)]
    exact hP k hk
  · rw [e 11 (by omega) (by omega) (by omega) (by omega) (by omega) (by omega)]
    exact hC k hk
end LId
