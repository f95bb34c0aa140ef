/-! The machines that cells choose, in plain words. -/
theorem sw_sym (f : Nat → Int32) (a b : Nat) (v : Int32) : swF f a b v = swF f b a v := by
  funext z
  unfold swF
  have e : ∀ x y, upd (upd f x v) y v z = if z = x ∨ z = y then v else f z := by
    intro x y
    by_cases h2 : z = y
    · rw [h2, upd_eq, if_pos (Or.inr rfl)]
    · rw [upd_ne h2]
      by_cases h1 : z = x
      · rw [h1, upd_eq, if_pos (Or.inl rfl)]
      · rw [upd_ne h1, if_neg (fun q => q.elim h1 h2)]
  rw [e, e]
  by_cases h : z = 9 * a + b ∨ z = 9 * b + a
  · rw [if_pos h, if_pos h.symm]
  · rw [if_neg h, if_neg (fun q => h q.symm)]
theorem sw_ne (f : Nat → Int32) {a b : Nat} (v : Int32) {z : Nat} (h1 : z ≠ 9 * a + b) (h2 : z ≠ 9 * b + a) : swF f a b v z = f z := by
  unfold swF
  rw [upd_ne h2, upd_ne h1]
theorem dv9' (i : Nat) (h : i < 81) : nI i / nI 9 = nI (i / 9) := dv9 i h
theorem m1_ne {a : Nat} (h : a < 2 ^ 31) : (-1 : Int32) ≠ nI a := fun z => by
  have h1 : (-1 : Int32).toInt = (nI a).toInt := by rw [z]
  rw [nI_toInt h, show (-1 : Int32).toInt = -1 by decide] at h1
  omega
theorem plN_i {b : Nat} (h : b < 2 ^ 31) : plN (nI b) = b := by
  unfold plN
  rw [if_neg (fun z => m1_ne h z.symm), cl_nI h]
theorem plN_d : plN (-1) = 8 := if_pos rfl
/-- what holds while the machines are made -/
def bS (D : va_G) (cA : Nat → ClassId) (e0 : Nat) (A : Nat → Prop) (x0 w : Nat) (ad : Nat → Nat → Nat) (g : Nat → Nat → Int32) (N : Nat → Nat) (H : Heap) : Prop :=
  xW D cA ad g (fun _ => 0) N H ∧ xA A e0 ad N ∧ ad 0 0 = x0 ∧ N 1 = 0 ∧ slInv g (N 0) ∧ hwAll g (N 0) ∧ bxInv g (N 0) ∧ g 13 0 = nI 0 ∧ va_at D vwCl (w, .inl (cA 0, 81, .inl (g 3))) H ∧ g 3 80 = nI 0
/-- what was not yet touched -/
def bQ (g : Nat → Nat → Int32) (n q : Nat) : Prop := (∀ k, n ≤ k → g 1 k = 0 ∧ g 2 k = 0) ∧ (∀ k, q ≤ k → g 4 k = 0 ∧ g 5 k = 0 ∧ g 6 k = nI 100 ∧ g 7 k = 0 ∧ g 8 k = 0 ∧ g 9 k = 0) ∧ g 3 = g00 3
/-- the ways that are still as at first, before the way between a and b is told -/
def bF (g : Nat → Nat → Int32) (n a b : Nat) : Prop := ∀ a' t, a' < t → (t < n ∨ t = 8) → (a < a' ∨ (a' = a ∧ b ≤ t ∧ b ≤ n)) → g 3 (9 * t + a') = nI 20
theorem bQ_up {g : Nat → Nat → Int32} {n q q' : Nat} (h : bQ g n q) (hq : q ≤ q') : bQ g n q' := ⟨h.1, fun k hk => h.2.1 k (by omega), h.2.2⟩
theorem bQ_dfl {g : Nat → Nat → Int32} {n : Nat} (h : bQ g n (6 * n)) : dfl g n := fun k => ⟨h.1 k, h.2.1 k⟩
theorem bQ_00 : bQ g00 0 0 := ⟨fun k _ => ⟨rfl, rfl⟩, fun k _ => ⟨rfl, rfl, rfl, rfl, rfl, rfl⟩, rfl⟩
theorem bF_0 {g : Nat → Nat → Int32} {n : Nat} (h : g 3 = g00 3) (hn : n ≤ 8) : bF g n 0 1 := fun a' t h1 h2 _ => by
  rw [h]
  show way0 (9 * t + a') = nI 20
  unfold way0
  rw [if_neg (by omega)]
theorem bF_a {g : Nat → Nat → Int32} {n a b : Nat} (h : bF g n a b) : bF g n (a + 1) (a + 1 + 1) := fun a' t h1 h2 h3 => h a' t h1 h2 (Or.inl (by omega))
theorem bF_b {g : Nat → Nat → Int32} {n a b : Nat} (h : bF g n a b) : bF g n a (b + 1) := fun a' t h1 h2 h3 => h a' t h1 h2 (by omega)
section BS
variable {D : va_G} {cA : Nat → ClassId} {e0 x0 w : Nat} {A : Nat → Prop} {ad ad2 : Nat → Nat → Nat} {g g2 : Nat → Nat → Int32} {N : Nat → Nat} {H H1 : Heap}
theorem bS_00 (hX : xW D cA ad g00 (fun _ => 0) n00 H) (hA : xA A e0 ad n00) (hx : ad 0 0 = x0) (hw : va_at D vwCl (w, .inl (cA 0, 81, .inl (g00 3))) H) : bS D cA e0 A x0 w ad g00 n00 H := by
  refine ⟨hX, hA, hx, rfl, fun k hk => absurd hk (Nat.not_lt_zero _), fun S hS => ?_, ⟨fun i hi => absurd hi (Nat.not_lt_zero _), fun k hk => absurd hk (Nat.not_lt_zero _)⟩, rfl, hw, by decide +kernel⟩
  have z : S = 0 := by
    have z1 : S < 2 ^ 0 := hS
    omega
  subst z
  intro m hm hb
  rw [Nat.zero_testBit] at hb
  exact absurd hb (by decide)
theorem bS_am {v : Int32} {a : Nat} (h : bS D cA e0 A x0 w ad g N H) (hQ : bQ g (N 0) (6 * N 0)) (hv : v = nI a) (ha : a ≤ 100000) (hX : xW D cA ad2 g2 (fun _ => 0) (amN' N) H1) (hA : xA A e0 ad2 (amN' N)) (hx : ad2 0 0 = ad 0 0) (hg : ∀ t, t ≠ 17 → g2 t = amG g (N 0) v t) (hw : hwAll g2 (N 0 + 1)) (hk : H1[w]? = H[w]?) : bS D cA e0 A x0 w ad2 g2 (amN' N) H1 ∧ bQ g2 (amN' N 0) (6 * N 0) := by
  obtain ⟨-, -, b3, b4, b5, -, b7, b8, b9, b10⟩ := h
  have e : ∀ t, t ≠ 0 → t ≠ 17 → t ≠ 18 → g2 t = g t := fun t a b c => by rw [hg t b, amG_t g (N 0) v a c]
  have e0' : g2 0 = upd (g 0) (N 0) v := by rw [hg 0 (by omega), amG_0]
  refine ⟨⟨hX, hA, hx.trans b3, by rw [amN_1]; exact b4, fun k hk => ?_, by rw [amN_0]; exact hw, ⟨fun i hi => ?_, fun k hk => ?_⟩, ?_, ?_, ?_⟩, ⟨fun k hk => ?_, fun k hk => ?_, ?_⟩⟩
  · rw [amN_0] at hk
    rw [e 4 (by omega) (by omega) (by omega), e 5 (by omega) (by omega) (by omega), e 7 (by omega) (by omega) (by omega)]
    by_cases hk2 : k < 6 * N 0
    · exact b5 k hk2
    · obtain ⟨d4, d5, -, d7, -, -⟩ := hQ.2.1 k (by omega)
      exact ⟨0, 0, 0, d4.trans nI_0.symm, d5.trans nI_0.symm, d7.trans nI_0.symm, by omega, by omega, by omega⟩
  · rw [amN_0] at hi
    rw [e0', e 1 (by omega) (by omega) (by omega)]
    by_cases hi2 : i = N 0
    · rw [hi2, upd_eq, hv, (hQ.1 (N 0) (Nat.le_refl _)).1]
      exact ⟨a, 0, rfl, nI_0.symm, ha, Nat.zero_le _⟩
    · rw [upd_ne hi2]
      exact b7.1 i (by omega)
  · rw [amN_0] at hk
    rw [e 6 (by omega) (by omega) (by omega)]
    by_cases hk2 : k < 6 * N 0
    · exact b7.2 k hk2
    · exact ⟨100, (hQ.2.1 k (by omega)).2.2.1, by omega⟩
  · rw [e 13 (by omega) (by omega) (by omega)]
    exact b8
  · rw [e 3 (by omega) (by omega) (by omega)]
    exact b9.kept hk
  · rw [e 3 (by omega) (by omega) (by omega)]
    exact b10
  · rw [amN_0] at hk
    rw [e 1 (by omega) (by omega) (by omega), e 2 (by omega) (by omega) (by omega)]
    exact hQ.1 k (by omega)
  · rw [e 4 (by omega) (by omega) (by omega), e 5 (by omega) (by omega) (by omega), e 6 (by omega) (by omega) (by omega), e 7 (by omega) (by omega) (by omega), e 8 (by omega) (by omega) (by omega), e 9 (by omega) (by omega) (by omega)]
    exact hQ.2.1 k hk
  · rw [e 3 (by omega) (by omega) (by omega)]
    exact hQ.2.2
theorem ssF_4 (g : Nat → Nat → Int32) (k : Nat) (c d : Int32) : ssF g k c d 4 = upd (g 4) k c := by
  unfold ssF
  rw [up_ne (by omega), up_ne (by omega), up_eq]
theorem ssF_5 (g : Nat → Nat → Int32) (k : Nat) (c d : Int32) : ssF g k c d 5 = upd (g 5) k (mnI (g 5 k) c) := by
  unfold ssF
  rw [up_ne (by omega), up_eq, up_ne (by omega)]
theorem ssF_7 (g : Nat → Nat → Int32) (k : Nat) (c d : Int32) : ssF g k c d 7 = upd (g 7) k d := by
  unfold ssF
  rw [up_eq, up_ne (by omega), up_ne (by omega)]
theorem ssF_t (g : Nat → Nat → Int32) (k : Nat) (c d : Int32) {t : Nat} (h4 : t ≠ 4) (h5 : t ≠ 5) (h7 : t ≠ 7) : ssF g k c d t = g t := by
  unfold ssF
  rw [up_ne h7, up_ne h5, up_ne h4]
theorem bS_ss {K : Nat} {c d : Int32} (h : bS D cA e0 A x0 w ad g N H) (hQ : bQ g (N 0) K) (hK : K < 6 * N 0) (hc : okR 0 30 c) (hd : okR 0 20 d) (hX : xW D cA ad (ssF g K c d) (fun _ => 0) N H1) (hk : H1[w]? = H[w]?) : bS D cA e0 A x0 w ad (ssF g K c d) N H1 ∧ bQ (ssF g K c d) (N 0) (K + 1) := by
  obtain ⟨-, b2, b3, b4, b5, b6, b7, b8, b9, b10⟩ := h
  have e : ∀ t, t ≠ 4 → t ≠ 5 → t ≠ 7 → ssF g K c d t = g t := fun t a b z => ssF_t g K c d a b z
  refine ⟨⟨hX, b2, b3, b4, fun k hk => ?_, hwAll_c (e 3 (by omega) (by omega) (by omega)) (e 17 (by omega) (by omega) (by omega)) b6, bx_c b7 (e 0 (by omega) (by omega) (by omega)) (e 1 (by omega) (by omega) (by omega)) (e 6 (by omega) (by omega) (by omega)), ?_, ?_, ?_⟩, ⟨fun k hk => ?_, fun k hk => ?_, ?_⟩⟩
  · rw [ssF_4, ssF_5, ssF_7]
    obtain ⟨a1, a2, a3, h4, h5, h7, c1, c2, c3⟩ := b5 k hk
    by_cases hk2 : k = K
    · subst hk2
      obtain ⟨c1, -, c2, rfl⟩ := hc
      obtain ⟨d1, -, d2, rfl⟩ := hd
      rw [upd_eq, upd_eq, upd_eq, h5]
      refine ⟨c1, min a2 c1, d1, rfl, ?_, rfl, by omega, by omega, by omega⟩
      exact mn_nI (a := a2) (b := c1) (by omega) (by omega)
    · rw [upd_ne hk2, upd_ne hk2, upd_ne hk2]
      exact ⟨a1, a2, a3, h4, h5, h7, c1, c2, c3⟩
  · rw [e 13 (by omega) (by omega) (by omega)]
    exact b8
  · rw [e 3 (by omega) (by omega) (by omega)]
    exact b9.kept hk
  · rw [e 3 (by omega) (by omega) (by omega)]
    exact b10
  · rw [e 1 (by omega) (by omega) (by omega), e 2 (by omega) (by omega) (by omega)]
    exact hQ.1 k hk
  · rw [ssF_4, ssF_5, ssF_7, e 6 (by omega) (by omega) (by omega), e 8 (by omega) (by omega) (by omega), e 9 (by omega) (by omega) (by omega), upd_ne (by omega), upd_ne (by omega), upd_ne (by omega)]
    exact hQ.2.1 k (by omega)
  · rw [e 3 (by omega) (by omega) (by omega)]
    exact hQ.2.2
theorem bS_pp {K p : Nat} {y : Int32} (h : bS D cA e0 A x0 w ad g N H) (hQ : bQ g (N 0) (K + 1)) (hy : y = nI p) (hp : p ≤ 1000) (hX : xW D cA ad (va_up g 6 (upd (g 6) K y)) (fun _ => 0) N H1) (hk : H1[w]? = H[w]?) : bS D cA e0 A x0 w ad (va_up g 6 (upd (g 6) K y)) N H1 ∧ bQ (va_up g 6 (upd (g 6) K y)) (N 0) (K + 1) := by
  obtain ⟨-, b2, b3, b4, b5, b6, b7, b8, b9, b10⟩ := h
  have e : ∀ t, t ≠ 6 → va_up g 6 (upd (g 6) K y) t = g t := fun t a => up_ne a
  refine ⟨⟨hX, b2, b3, b4, inv_c b5 (e 4 (by omega)) (e 5 (by omega)) (e 7 (by omega)), hwAll_c (e 3 (by omega)) (e 17 (by omega)) b6, ⟨fun i hi => ?_, fun k hk => ?_⟩, ?_, ?_, ?_⟩, ⟨fun k hk => ?_, fun k hk => ?_, ?_⟩⟩
  · rw [e 0 (by omega), e 1 (by omega)]
    exact b7.1 i hi
  · rw [up_eq]
    by_cases hk2 : k = K
    · rw [hk2, upd_eq]
      exact ⟨p, hy, hp⟩
    · rw [upd_ne hk2]
      exact b7.2 k hk
  · rw [e 13 (by omega)]
    exact b8
  · rw [e 3 (by omega)]
    exact b9.kept hk
  · rw [e 3 (by omega)]
    exact b10
  · rw [e 1 (by omega), e 2 (by omega)]
    exact hQ.1 k hk
  · rw [e 4 (by omega), e 5 (by omega), e 7 (by omega), e 8 (by omega), e 9 (by omega), up_eq, upd_ne (by omega)]
    exact hQ.2.1 k hk
  · rw [e 3 (by omega)]
    exact hQ.2.2
/-- a way is told: the class's row and the law's agree again -/
theorem bS_sm {a t b : Nat} {v : Int32} (h : bS D cA e0 A x0 w ad g N H) (hF : bF g (N 0) a b) (hat : a < t) (ht : t = b ∧ b < N 0 ∨ t = 8 ∧ b = N 0) (ha : a < N 0) (hn : N 0 ≤ 8) (hX : xW D cA ad g2 (fun _ => 0) N H1) (hg : ∀ k, k ≠ 17 → g2 k = va_up g 3 (swF (g 3) t a v) k) (hw : hwAll g2 (N 0)) (hk : va_at D vwCl (w, .inl (cA 0, 81, .inl (swF (g 3) a t v))) H1) : bS D cA e0 A x0 w ad g2 N H1 ∧ bF g2 (N 0) a (b + 1) := by
  obtain ⟨-, b2, b3, b4, b5, b6, b7, b8, b9, b10⟩ := h
  have e : ∀ k, k ≠ 3 → k ≠ 17 → g2 k = g k := fun k a b => by rw [hg k b, up_ne a]
  have e3 : g2 3 = swF (g 3) a t v := by rw [hg 3 (by omega), up_eq, sw_sym]
  refine ⟨⟨hX, b2, b3, b4, inv_c b5 (e 4 (by omega) (by omega)) (e 5 (by omega) (by omega)) (e 7 (by omega) (by omega)), hw, bx_c b7 (e 0 (by omega) (by omega)) (e 1 (by omega) (by omega)) (e 6 (by omega) (by omega)), ?_, ?_, ?_⟩, fun a' t' h1 h2 h3 => ?_⟩
  · rw [e 13 (by omega) (by omega)]
    exact b8
  · rw [e3]
    exact hk
  · rw [e3, sw_ne _ _ (by omega) (by omega)]
    exact b10
  · rw [e3, sw_ne _ _ (by omega) (by omega)]
    exact hF a' t' h1 h2 (by omega)
end BS
