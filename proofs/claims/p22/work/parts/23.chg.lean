/-! Planned changes: what stays of them, in plain words; a change taken out of the list. -/
def shF {α : Type} (f : Nat → α) (i j : Nat) : α := if j < i then f j else f (j + 1)
theorem shF_lt {α : Type} {f : Nat → α} {i j : Nat} (h : j < i) : shF f i j = f j := if_pos h
theorem shF_ge {α : Type} {f : Nat → α} {i j : Nat} (h : i ≤ j) : shF f i j = f (j + 1) := if_neg (by omega)
def kpL (p : Nat → Bool) (i n : Nat) : List Nat := List.range i ++ ((List.range n).drop i).filter p
theorem kp_n (p : Nat → Bool) (n : Nat) : kpL p n n = List.range n := by
  unfold kpL
  rw [List.drop_eq_nil_of_le (by simp)]
  simp
theorem kp_0 (p : Nat → Bool) (n : Nat) : kpL p 0 n = (List.range n).filter p := by
  unfold kpL
  simp
theorem kp_drop {i n : Nat} (h : i < n) : (List.range n).drop i = i :: (List.range n).drop (i + 1) := by
  rw [List.drop_eq_getElem_cons (by simpa using h)]
  simp
theorem kp_yes {p : Nat → Bool} {i n : Nat} (h : i < n) (hp : p i = true) : kpL p i n = kpL p (i + 1) n := by
  unfold kpL
  rw [kp_drop h, List.filter_cons_of_pos hp, List.range_succ, List.append_assoc, List.singleton_append]
theorem kp_len {p : Nat → Bool} {i n : Nat} (_h : i < n) : i < (kpL p (i + 1) n).length := by
  unfold kpL
  rw [List.length_append, List.length_range]
  omega
theorem kp_no {p : Nat → Bool} {i n : Nat} (h : i < n) (hp : ¬ p i = true) : kpL p i n = (kpL p (i + 1) n).eraseIdx i := by
  unfold kpL
  rw [kp_drop h, List.filter_cons_of_neg hp, List.range_succ, List.append_assoc, List.eraseIdx_append_of_length_le (by simp)]
  simp
theorem kp_at {p : Nat → Bool} {i n : Nat} (hl : i < (kpL p (i + 1) n).length) : (kpL p (i + 1) n)[i] = i := by
  have h : (kpL p (i + 1) n)[i]? = some i := by
    unfold kpL
    rw [List.getElem?_append_left (by simp)]
    simp
  exact (List.getElem?_eq_some_iff.mp h).2
theorem er_lt {L : List Nat} {i j : Nat} (h : j < i) (hi : i < L.length) (hj : j < (L.eraseIdx i).length) : (L.eraseIdx i)[j] = L[j]'(by omega) := List.getElem_eraseIdx_of_lt hj h
theorem er_ge {L : List Nat} {i j : Nat} (h : i ≤ j) (hi : i < L.length) (hj : j < (L.eraseIdx i).length) : (L.eraseIdx i)[j] = L[j + 1]'(by rw [List.length_eraseIdx_of_lt hi] at hj; omega) := List.getElem_eraseIdx_of_ge hj h
/-- the state in which only the changes of the places L are left -/
def chR (g g1 : Nat → Nat → Int32) (ad ad1 : Nat → Nat → Nat) (N N1 : Nat → Nat) (L : List Nat) : Prop :=
  (∀ t, t ≠ 10 → t ≠ 11 → t ≠ 12 → t ≠ 18 → g1 t = g t) ∧ (∀ c, c ≠ 4 → ad1 c = ad c) ∧ (∀ c, c ≠ 1 → N1 c = N c) ∧ N1 1 = L.length ∧ ∀ j, (h : j < L.length) → g1 10 j = g 10 L[j] ∧ g1 11 j = g 11 L[j] ∧ g1 12 j = g 12 L[j] ∧ ad1 4 j = ad 4 L[j]
theorem chR.t {g g1 : Nat → Nat → Int32} {ad ad1 : Nat → Nat → Nat} {N N1 : Nat → Nat} {L : List Nat} (h : chR g g1 ad ad1 N N1 L) : ∀ t, t ≠ 10 → t ≠ 11 → t ≠ 12 → t ≠ 18 → g1 t = g t := h.1
theorem chR.a {g g1 : Nat → Nat → Int32} {ad ad1 : Nat → Nat → Nat} {N N1 : Nat → Nat} {L : List Nat} (h : chR g g1 ad ad1 N N1 L) : ∀ c, c ≠ 4 → ad1 c = ad c := h.2.1
theorem chR.n {g g1 : Nat → Nat → Int32} {ad ad1 : Nat → Nat → Nat} {N N1 : Nat → Nat} {L : List Nat} (h : chR g g1 ad ad1 N N1 L) : ∀ c, c ≠ 1 → N1 c = N c := h.2.2.1
theorem chR.l {g g1 : Nat → Nat → Int32} {ad ad1 : Nat → Nat → Nat} {N N1 : Nat → Nat} {L : List Nat} (h : chR g g1 ad ad1 N N1 L) : N1 1 = L.length := h.2.2.2.1
theorem chR.e {g g1 : Nat → Nat → Int32} {ad ad1 : Nat → Nat → Nat} {N N1 : Nat → Nat} {L : List Nat} (h : chR g g1 ad ad1 N N1 L) : ∀ j, (h : j < L.length) → g1 10 j = g 10 L[j] ∧ g1 11 j = g 11 L[j] ∧ g1 12 j = g 12 L[j] ∧ ad1 4 j = ad 4 L[j] := h.2.2.2.2
theorem chR_0 (g : Nat → Nat → Int32) (ad : Nat → Nat → Nat) (N : Nat → Nat) : chR g g ad ad N N (List.range (N 1)) :=
  ⟨fun _ _ _ _ _ => rfl, fun _ _ => rfl, fun _ _ => rfl, by simp, fun j h => by simp⟩
def rmG (g : Nat → Nat → Int32) (i : Nat) : Nat → Nat → Int32 := va_up (va_up (va_up (va_up g 10 (shF (g 10) i)) 11 (shF (g 11) i)) 12 (shF (g 12) i)) 18 (upd (g 18) 1 (g 18 1 + nI 1))
theorem rmG_10 (g : Nat → Nat → Int32) (i : Nat) : rmG g i 10 = shF (g 10) i := by unfold rmG; rw [up_ne (by omega), up_ne (by omega), up_ne (by omega), up_eq]
theorem rmG_11 (g : Nat → Nat → Int32) (i : Nat) : rmG g i 11 = shF (g 11) i := by unfold rmG; rw [up_ne (by omega), up_ne (by omega), up_eq]
theorem rmG_12 (g : Nat → Nat → Int32) (i : Nat) : rmG g i 12 = shF (g 12) i := by unfold rmG; rw [up_ne (by omega), up_eq]
theorem rmG_18 (g : Nat → Nat → Int32) (i : Nat) : rmG g i 18 = upd (g 18) 1 (g 18 1 + nI 1) := by unfold rmG; rw [up_eq]
theorem rmG_t (g : Nat → Nat → Int32) (i : Nat) {t : Nat} (h1 : t ≠ 10) (h2 : t ≠ 11) (h3 : t ≠ 12) (h4 : t ≠ 18) : rmG g i t = g t := by unfold rmG; rw [up_ne h4, up_ne h3, up_ne h2, up_ne h1]
theorem chR_rm {g g1 : Nat → Nat → Int32} {ad ad1 : Nat → Nat → Nat} {N N1 : Nat → Nat} {L : List Nat} {i : Nat} (h : chR g g1 ad ad1 N N1 L) (hi : i < L.length) : chR g (rmG g1 i) ad (va_up ad1 4 (shF (ad1 4) i)) N (va_up N1 1 (N1 1 - 1)) (L.eraseIdx i) := by
  refine ⟨fun t h1 h2 h3 h4 => (rmG_t g1 i h1 h2 h3 h4).trans (h.t t h1 h2 h3 h4), fun c hc => (up_ne hc).trans (h.a c hc), fun c hc => (up_ne hc).trans (h.n c hc), ?_, fun j hj => ?_⟩
  · rw [up_eq, h.l, List.length_eraseIdx_of_lt hi]
  · have hj2 := hj
    rw [List.length_eraseIdx_of_lt hi] at hj2
    rw [rmG_10, rmG_11, rmG_12, up_eq]
    rcases Nat.lt_or_ge j i with q | q
    · rw [shF_lt q, shF_lt q, shF_lt q, shF_lt q, er_lt q hi hj]
      exact h.e j (by omega)
    · rw [shF_ge q, shF_ge q, shF_ge q, shF_ge q, er_ge q hi hj]
      exact h.e (j + 1) (by omega)
/-- the prices that today's changes set -/
def cpG (g : Nat → Nat → Int32) : Nat → Nat → Nat → Int32
  | 0 => g
  | k + 1 => if g 10 k = g 13 0 then va_up (cpG g k) 6 (upd (cpG g k 6) (cl (g 11 k)) (g 12 k)) else cpG g k
theorem cpG_t (g : Nat → Nat → Int32) {t : Nat} (h : t ≠ 6) : ∀ k, cpG g k t = g t
  | 0 => rfl
  | k + 1 => by
    by_cases hc : g 10 k = g 13 0
    · rw [show cpG g (k + 1) = _ from if_pos hc, up_ne h, cpG_t g h k]
    · rw [show cpG g (k + 1) = _ from if_neg hc, cpG_t g h k]
/-- which changes stay -/
def stF (g : Nat → Nat → Int32) (j : Nat) : Bool := decide (¬ g 10 j = g 13 0)
section CW
variable {D : va_G} {cA : Nat → ClassId} {ad : Nat → Nat → Nat} {g : Nat → Nat → Int32} {tt : Nat → Int64} {N : Nat → Nat} {H H1 : Heap} {A : Nat → Prop} {e0 : Nat}
theorem xV_rm {i : Nat} {c j : Nat} (_hi : i < N 1) (h : xV (va_up N 1 (N 1 - 1)) c j) : xV N c j := by
  unfold xV at h ⊢
  rw [up_ne (show 2 ≠ 1 by omega), up_ne (show 3 ≠ 1 by omega), up_ne (show 0 ≠ 1 by omega), up_eq] at h
  omega
theorem xA.rm {i : Nat} (h : xA A e0 ad N) (hi : i < N 1) : xA A e0 (va_up ad 4 (shF (ad 4) i)) (va_up N 1 (N 1 - 1)) := by
  obtain ⟨h1, h2, h3, h4, h5, h6, h7, h8, h9, h10⟩ := h
  have key : ∀ c j, xV (va_up N 1 (N 1 - 1)) c j → ∃ j', xV N c j' ∧ va_up ad 4 (shF (ad 4) i) c j = ad c j' ∧ (c ≠ 4 → j' = j) ∧ (c = 4 → j' = if j < i then j else j + 1) := by
    intro c j hv
    by_cases hc : c = 4
    · subst hc
      have hj : j < N 1 - 1 := by
        unfold xV at hv
        rw [up_eq] at hv
        omega
      refine ⟨if j < i then j else j + 1, xV4 (by split <;> omega), ?_, fun z => absurd rfl z, fun _ => rfl⟩
      rw [up_eq]
      unfold shF
      split <;> rfl
    · exact ⟨j, xV_rm hi hv, by rw [up_ne hc], fun _ => rfl, fun z => absurd z hc⟩
  refine ⟨fun c j c' j' hv hv' he => ?_, fun c j hv => ?_, ?_, ?_, ?_, ?_, ?_, ?_, ?_, ?_⟩
  · obtain ⟨k, k1, k2, k3, k4⟩ := key c j hv
    obtain ⟨k', k1', k2', k3', k4'⟩ := key c' j' hv'
    rw [k2, k2'] at he
    obtain ⟨e1, e2⟩ := h1 c k c' k' k1 k1' he
    subst e1
    refine ⟨rfl, ?_⟩
    by_cases hc : c = 4
    · have e3 := k4 hc
      have e4 := k4' hc
      rw [e2] at e3
      split at e3 <;> split at e4 <;> omega
    · rw [← k3 hc, ← k3' hc, e2]
  · obtain ⟨k, k1, k2, -, -⟩ := key c j hv
    rw [k2]
    exact h2 c k k1
  · rw [up_ne (by omega), up_ne (by omega)]; exact h3
  · rw [up_ne (by omega), up_ne (by omega)]; exact h4
  · rw [up_ne (by omega)]; exact h5
  · rw [up_ne (by omega), up_ne (by omega)]; exact h6
  · rw [up_ne (by omega)]; exact h7
  · rw [up_eq]; omega
  · rw [up_eq, up_ne (by omega)]; omega
  · rw [up_ne (by omega)]; exact h10
theorem xC_n1 {n : Nat} (c j : Nat) (h : ¬ (c = 0 ∧ (j = 2 ∨ 10 ≤ j))) : xC cA ad g tt (va_up N 1 n) c j = xC cA ad g tt N c j := by
  rcases c with _|_|_|_|c
  · rcases j with _|_|_|_|_|_|_|_|_|_|j
    · rfl
    · rfl
    · exact absurd (by omega) h
    · rfl
    · rfl
    · rfl
    · rfl
    · rfl
    · rfl
    · rfl
    · exact absurd (by omega) h
  · rfl
  · rfl
  · rfl
  · rfl
theorem xC_a4 {f : Nat → Nat} (c j : Nat) (h : ¬ (c = 0 ∧ 10 ≤ j)) : xC cA (va_up ad 4 f) g tt N c j = xC cA ad g tt N c j := by
  rcases c with _|_|_|_|c
  · rcases j with _|_|_|_|_|_|_|_|_|_|j
    · rfl
    · rfl
    · rfl
    · rfl
    · rfl
    · rfl
    · rfl
    · rfl
    · rfl
    · rfl
    · exact absurd (by omega) h
  · rfl
  · rfl
  · rfl
  · rfl
theorem xC_gg {g' : Nat → Nat → Int32} (c j : Nat) (hc : c < 4) (hg : ∀ t, t < 10 ∨ (13 ≤ t ∧ t < 18) → g' t = g t) (h18 : g' 18 0 = g 18 0) (h : ¬ (c = 0 ∧ j = 2)) : xC cA ad g' tt N c j = xC cA ad g tt N c j := by
  have e0 := hg 0 (by omega)
  have e1 := hg 1 (by omega)
  have e2 := hg 2 (by omega)
  have e3 := hg 3 (by omega)
  have e4 := hg 4 (by omega)
  have e5 := hg 5 (by omega)
  have e6 := hg 6 (by omega)
  have e7 := hg 7 (by omega)
  have e8 := hg 8 (by omega)
  have e9 := hg 9 (by omega)
  have e13 := hg 13 (by omega)
  have e14 := hg 14 (by omega)
  have e15 := hg 15 (by omega)
  have e16 := hg 16 (by omega)
  have e17 := hg 17 (by omega)
  clear hg
  rcases c with _|_|_|_|c
  · rcases j with _|_|_|_|_|_|_|_|_|_|j
    · simp only [xC, e13]
    · simp only [xC, h18]
    · exact absurd (by omega) h
    · simp only [xC]
    · simp only [xC, e14]
    · simp only [xC, e15]
    · simp only [xC, e16]
    · simp only [xC, e3]
    · simp only [xC, e17]
    · simp only [xC]
    · simp only [xC]
  · simp only [xC, e0, e1, e2]
  · simp only [xC]
  · simp only [xC, e4, e5, e6, e7, e8, e9]
  · exact absurd hc (by omega)
theorem rm_e (f : Nat → Nat) {i n : Nat} (hi : i < n) (j : Nat) : (if j < n - 1 then some (shF f i j) else none) = rmF (fun j => if j < n then some (f j) else none) i n j := by
  show _ = if j < i then (if j < n then some (f j) else none) else if j + 1 < n then (if j + 1 < n then some (f (j + 1)) else none) else if j + 1 = n then none else (if j < n then some (f j) else none)
  unfold shF
  by_cases q1 : j < i
  · rw [if_pos (show j < n - 1 by omega), if_pos q1, if_pos q1, if_pos (show j < n by omega)]
  · rw [if_neg q1, if_neg q1]
    by_cases q2 : j + 1 < n
    · rw [if_pos (show j < n - 1 by omega), if_pos q2, if_pos q2]
    · rw [if_neg (show ¬ j < n - 1 by omega), if_neg q2]
      by_cases q3 : j + 1 = n
      · rw [if_pos q3]
      · rw [if_neg q3, if_neg (show ¬ j < n by omega)]
set_option maxRecDepth 100000 in
theorem xW.rm {i : Nat} {f2 : Nat → Option Nat} (h : xW D cA ad g tt N H) (hA : xA A e0 ad N) (hi : i < N 1) (hL : va_at D vwCl (ad 0 2, .inr (0, [.int (g 18 1 + nI 1), .ref (ad 0 10), .int (nI (N 1 - 1))])) H1)
    (hF : va_at D vwCl (ad 0 10, .inl (cA 2, N 3, .inr (.inr (.inr (.inr f2))))) H1) (hf2 : ∀ j, f2 j = rmF (fun j => if j < N 1 then some (ad 4 j) else none) i (N 1) j) (ho : ∀ q : Nat, q < H.size → ¬ (q = ad 0 2 ∨ q = ad 0 10) → H1[q]? = H[q]?) : xW D cA (va_up ad 4 (shF (ad 4) i)) (rmG g i) tt (va_up N 1 (N 1 - 1)) H1 := by
  have hN3 : 0 < N 3 := by have := hA.2.2.2.2.2.2.2.2.1; omega
  have v2 : xV N 0 2 := xV0 (by omega)
  have v10 : xV N 0 10 := xV10 hN3
  have keep : ∀ c j, xV N c j → ¬ (c = 0 ∧ j = 2) → ¬ (c = 0 ∧ j = 10) → va_at D vwCl (ad c j, xC cA ad g tt N c j) H1 := fun c j hv n1 n2 =>
    (h c j hv).kept (ho _ (h.lt hv) (fun z => z.elim (fun z => n1 (hA.1 c j 0 2 hv v2 z)) (fun z => n2 (hA.1 c j 0 10 hv v10 z))))
  intro c j hv
  have hv' := xV_rm hi hv
  by_cases hc : c = 4
  · subst hc
    have hj : j < N 1 - 1 := by
      unfold xV at hv
      rw [up_eq] at hv
      omega
    show va_at D vwCl (va_up ad 4 (shF (ad 4) i) 4 j, .inr (2, [.ref (va_up ad 4 (shF (ad 4) i) 3 (rmG g i 11 j).toNatClampNeg), .int (rmG g i 10 j), .int (rmG g i 12 j)])) H1
    rw [up_eq, up_ne (show 3 ≠ 4 by omega), rmG_10, rmG_11, rmG_12]
    rcases Nat.lt_or_ge j i with q | q
    · rw [shF_lt q, shF_lt q, shF_lt q, shF_lt q]
      exact keep 4 j (xV4 (by omega)) (by omega) (by omega)
    · rw [shF_ge q, shF_ge q, shF_ge q, shF_ge q]
      exact keep 4 (j + 1) (xV4 (by omega)) (by omega) (by omega)
  · rw [up_ne hc]
    rcases c with _|_|_|_|c
    · by_cases h2 : j = 2
      · subst h2
        show va_at D vwCl (ad 0 2, .inr (0, [.int (rmG g i 18 1), .ref (va_up ad 4 (shF (ad 4) i) 0 10), .int (nI (va_up N 1 (N 1 - 1) 1))])) H1
        rw [rmG_18, upd_eq, up_ne (show 0 ≠ 4 by omega), up_eq]
        exact hL
      · by_cases h10 : j = 10
        · subst h10
          show va_at D vwCl (ad 0 10, .inl (cA 2, va_up N 1 (N 1 - 1) 3, .inr (.inr (.inr (.inr (fun j => if j < va_up N 1 (N 1 - 1) 1 then some (va_up ad 4 (shF (ad 4) i) 4 j) else none)))))) H1
          rw [up_eq, up_eq, up_ne (show 3 ≠ 1 by omega)]
          have e : (fun j => if j < N 1 - 1 then some (shF (ad 4) i j) else none) = f2 := by
            funext j
            rw [hf2 j]
            exact rm_e (ad 4) hi j
          rw [e]
          exact hF
        · have hj : ¬ (0 = 0 ∧ 10 ≤ j) := fun z => by
            have z2 := z.2
            unfold xV at hv'
            omega
          rw [xC_n1 0 j (by omega), xC_a4 0 j hj, xC_gg (g := g) 0 j (by omega) (fun t ht => rmG_t g i (by omega) (by omega) (by omega) (by omega)) (by rw [rmG_18, upd_ne (by omega)]) (by omega)]
          exact keep 0 j hv' (fun z => h2 z.2) (fun z => h10 z.2)
    · rw [xC_n1 1 j (by omega), xC_a4 1 j (by omega), xC_gg (g := g) 1 j (by omega) (fun t ht => rmG_t g i (by omega) (by omega) (by omega) (by omega)) (by rw [rmG_18, upd_ne (by omega)]) (by omega)]
      exact keep 1 j hv' (by omega) (by omega)
    · rw [xC_n1 2 j (by omega), xC_a4 2 j (by omega), xC_gg (g := g) 2 j (by omega) (fun t ht => rmG_t g i (by omega) (by omega) (by omega) (by omega)) (by rw [rmG_18, upd_ne (by omega)]) (by omega)]
      exact keep 2 j hv' (by omega) (by omega)
    · rw [xC_n1 3 j (by omega), xC_a4 3 j (by omega), xC_gg (g := g) 3 j (by omega) (fun t ht => rmG_t g i (by omega) (by omega) (by omega) (by omega)) (by rw [rmG_18, upd_ne (by omega)]) (by omega)]
      exact keep 3 j hv' (by omega) (by omega)
    · exfalso
      unfold xV at hv'
      omega
end CW
