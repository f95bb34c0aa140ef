/-! What a state of the class is: numbers g (tables 0 limits, 1 boxes, 2 visits, 3 ways, 4 rooms, 5 stocks, 6 prices, 7 wants, 8 sold, 9 lost, 10 days, 11 slots, 12 prices of the planned changes, 13 the day; 14, 15, 16 the rows of survey, 17 the ways home, 18 the lists' modCounts), totals tt, N (0 machines, 1 changes, 2 and 3 the lists' places). -/
def xpm (p : Nat) : Nat := 9 * ((p / 9 + 8) % 9) + (p % 9 + 8) % 9
def xC (cA : Nat → ClassId) (ad : Nat → Nat → Nat) (g : Nat → Nat → Int32) (tt : Nat → Int64) (N : Nat → Nat) : Nat → Nat → va_E
  | 0, 0 => .inr (5, [.ref (ad 0 1), .ref (ad 0 2), .ref (ad 0 3), .ref (ad 0 4), .ref (ad 0 5), .ref (ad 0 6), .int (g 13 0), .long (tt 0), .long (tt 1), .long (tt 2), .long (tt 3)])
  | 0, 1 => .inr (0, [.int (g 18 0), .ref (ad 0 9), .int (nI (N 0))])
  | 0, 2 => .inr (0, [.int (g 18 1), .ref (ad 0 10), .int (nI (N 1))])
  | 0, 3 => .inr (3, [.ref (ad 0 7), .ref (ad 0 8)])
  | 0, 4 => .inl (cA 0, 8, .inl (g 14))
  | 0, 5 => .inl (cA 0, 8, .inl (g 15))
  | 0, 6 => .inl (cA 0, 8, .inl (g 16))
  | 0, 7 => .inl (cA 0, 81, .inl (fun p => g 3 (xpm p)))
  | 0, 8 => .inl (cA 0, 2048, .inl (g 17))
  | 0, 9 => .inl (cA 2, N 2, .inr (.inr (.inr (.inr (fun j => if j < N 0 then some (ad 1 j) else none)))))
  | 0, _ => .inl (cA 2, N 3, .inr (.inr (.inr (.inr (fun j => if j < N 1 then some (ad 4 j) else none)))))
  | 1, i => .inr (1, [.int (g 0 i), .ref (ad 2 i), .int (g 1 i), .int (g 2 i)])
  | 2, i => .inl (cA 3, 6, .inr (.inr (.inr (.inr (fun j => some (ad 3 (6 * i + j)))))))
  | 3, k => .inr (4, [.int (g 4 k), .int (g 5 k), .int (g 6 k), .int (g 7 k), .int (g 8 k), .int (g 9 k)])
  | _, k => .inr (2, [.ref (ad 3 (g 11 k).toNatClampNeg), .int (g 10 k), .int (g 12 k)])
def xV (N : Nat → Nat) (c j : Nat) : Prop := (c = 0 ∧ (j < 9 ∨ (j = 9 ∧ 0 < N 2) ∨ (j = 10 ∧ 0 < N 3))) ∨ (c = 1 ∧ j < N 0) ∨ (c = 2 ∧ j < N 0) ∨ (c = 3 ∧ j < 6 * N 0) ∨ (c = 4 ∧ j < N 1)
def xW (D : va_G) (cA : Nat → ClassId) (ad : Nat → Nat → Nat) (g : Nat → Nat → Int32) (tt : Nat → Int64) (N : Nat → Nat) (H : Heap) : Prop := ∀ c j, xV N c j → va_at D vwCl (ad c j, xC cA ad g tt N c j) H
def xA (A : Nat → Prop) (e0 : Nat) (ad : Nat → Nat → Nat) (N : Nat → Nat) : Prop := (∀ c j c' j', xV N c j → xV N c' j' → ad c j = ad c' j' → c = c' ∧ j = j') ∧ (∀ c j, xV N c j → A (ad c j)) ∧ (N 2 = 0 → ad 0 9 = e0) ∧ (N 3 = 0 → ad 0 10 = e0) ∧ N 0 ≤ 8 ∧ N 0 ≤ N 2 ∧ N 2 ≤ 10 ∧ N 1 ≤ 20 ∧ N 1 ≤ N 3 ∧ (N 3 = 0 ∨ N 3 = 10 ∨ N 3 = 15 ∨ N 3 = 22)
theorem xV0 {N : Nat → Nat} {j : Nat} (h : j < 9) : xV N 0 j := Or.inl ⟨rfl, Or.inl h⟩
theorem xV9 {N : Nat → Nat} (h : 0 < N 2) : xV N 0 9 := Or.inl ⟨rfl, Or.inr (Or.inl ⟨rfl, h⟩)⟩
theorem xV10 {N : Nat → Nat} (h : 0 < N 3) : xV N 0 10 := Or.inl ⟨rfl, Or.inr (Or.inr ⟨rfl, h⟩)⟩
theorem xV1 {N : Nat → Nat} {j : Nat} (h : j < N 0) : xV N 1 j := Or.inr (Or.inl ⟨rfl, h⟩)
theorem xV2 {N : Nat → Nat} {j : Nat} (h : j < N 0) : xV N 2 j := Or.inr (Or.inr (Or.inl ⟨rfl, h⟩))
theorem xV3 {N : Nat → Nat} {j : Nat} (h : j < 6 * N 0) : xV N 3 j := Or.inr (Or.inr (Or.inr (Or.inl ⟨rfl, h⟩)))
theorem xV4 {N : Nat → Nat} {j : Nat} (h : j < N 1) : xV N 4 j := Or.inr (Or.inr (Or.inr (Or.inr ⟨rfl, h⟩)))
section XW
variable {D : va_G} {cA : Nat → ClassId} {ad : Nat → Nat → Nat} {g : Nat → Nat → Int32} {tt : Nat → Int64} {N : Nat → Nat} {H H1 : Heap} {A : Nat → Prop} {e0 : Nat}
theorem xW.main (h : xW D cA ad g tt N H) : va_at D vwCl (ad 0 0, .inr (5, [.ref (ad 0 1), .ref (ad 0 2), .ref (ad 0 3), .ref (ad 0 4), .ref (ad 0 5), .ref (ad 0 6), .int (g 13 0), .long (tt 0), .long (tt 1), .long (tt 2), .long (tt 3)])) H := h 0 0 (xV0 (by omega))
theorem xW.ml (h : xW D cA ad g tt N H) : va_at D vwCl (ad 0 1, .inr (0, [.int (g 18 0), .ref (ad 0 9), .int (nI (N 0))])) H := h 0 1 (xV0 (by omega))
theorem xW.cl (h : xW D cA ad g tt N H) : va_at D vwCl (ad 0 2, .inr (0, [.int (g 18 1), .ref (ad 0 10), .int (nI (N 1))])) H := h 0 2 (xV0 (by omega))
theorem xW.roads (h : xW D cA ad g tt N H) : va_at D vwCl (ad 0 3, .inr (3, [.ref (ad 0 7), .ref (ad 0 8)])) H := h 0 3 (xV0 (by omega))
theorem xW.vt (h : xW D cA ad g tt N H) : va_at D vwCl (ad 0 4, .inl (cA 0, 8, .inl (g 14))) H := h 0 4 (xV0 (by omega))
theorem xW.lk (h : xW D cA ad g tt N H) : va_at D vwCl (ad 0 5, .inl (cA 0, 8, .inl (g 15))) H := h 0 5 (xV0 (by omega))
theorem xW.gn (h : xW D cA ad g tt N H) : va_at D vwCl (ad 0 6, .inl (cA 0, 8, .inl (g 16))) H := h 0 6 (xV0 (by omega))
theorem xW.mi (h : xW D cA ad g tt N H) : va_at D vwCl (ad 0 7, .inl (cA 0, 81, .inl (fun p => g 3 (xpm p)))) H := h 0 7 (xV0 (by omega))
theorem xW.hw (h : xW D cA ad g tt N H) : va_at D vwCl (ad 0 8, .inl (cA 0, 2048, .inl (g 17))) H := h 0 8 (xV0 (by omega))
theorem xW.md (h : xW D cA ad g tt N H) (k : 0 < N 2) : va_at D vwCl (ad 0 9, .inl (cA 2, N 2, .inr (.inr (.inr (.inr (fun j => if j < N 0 then some (ad 1 j) else none)))))) H := h 0 9 (xV9 k)
theorem xW.cd (h : xW D cA ad g tt N H) (k : 0 < N 3) : va_at D vwCl (ad 0 10, .inl (cA 2, N 3, .inr (.inr (.inr (.inr (fun j => if j < N 1 then some (ad 4 j) else none)))))) H := h 0 10 (xV10 k)
theorem xW.mach (h : xW D cA ad g tt N H) {i : Nat} (k : i < N 0) : va_at D vwCl (ad 1 i, .inr (1, [.int (g 0 i), .ref (ad 2 i), .int (g 1 i), .int (g 2 i)])) H := h 1 i (xV1 k)
theorem xW.row (h : xW D cA ad g tt N H) {i : Nat} (k : i < N 0) : va_at D vwCl (ad 2 i, .inl (cA 3, 6, .inr (.inr (.inr (.inr (fun j => some (ad 3 (6 * i + j)))))))) H := h 2 i (xV2 k)
theorem xW.slot (h : xW D cA ad g tt N H) {k : Nat} (hk : k < 6 * N 0) : va_at D vwCl (ad 3 k, .inr (4, [.int (g 4 k), .int (g 5 k), .int (g 6 k), .int (g 7 k), .int (g 8 k), .int (g 9 k)])) H := h 3 k (xV3 hk)
theorem xW.chg (h : xW D cA ad g tt N H) {k : Nat} (hk : k < N 1) : va_at D vwCl (ad 4 k, .inr (2, [.ref (ad 3 (g 11 k).toNatClampNeg), .int (g 10 k), .int (g 12 k)])) H := h 4 k (xV4 hk)
theorem xA.a (h : xA A e0 ad N) {c j : Nat} (k : xV N c j) : A (ad c j) := h.2.1 c j k
theorem xA.n8 (h : xA A e0 ad N) : N 0 ≤ 8 := h.2.2.2.2.1
/-- the cell c0, j0 is written: the new numbers say the same of all others -/
theorem xW.put {c0 j0 : Nat} {e : va_E} {g' : Nat → Nat → Int32} {tt' : Nat → Int64} (h : xW D cA ad g tt N H) (hA : xA A e0 ad N) (hv : xV N c0 j0) (hU : xUp D (ad c0 j0) e H H1) (he : xC cA ad g' tt' N c0 j0 = e) (ho : ∀ c j, xV N c j → ¬ (c = c0 ∧ j = j0) → xC cA ad g' tt' N c j = xC cA ad g tt N c j) : xW D cA ad g' tt' N H1 := by
  intro c j hcj
  by_cases hc : c = c0 ∧ j = j0
  · obtain ⟨rfl, rfl⟩ := hc
    rw [he]
    exact hU.1
  · rw [ho c j hcj hc]
    exact (h c j hcj).kept (hU.2.2 _ (fun z => hc (hA.1 c j c0 j0 hcj hv z)))
/-- nothing of this world was written -/
theorem xW.keep (h : xW D cA ad g tt N H) (hk : ∀ c j, xV N c j → H1[ad c j]? = H[ad c j]?) : xW D cA ad g tt N H1 := fun c j hcj => (h c j hcj).kept (hk c j hcj)
theorem xW.lt (h : xW D cA ad g tt N H) {c j : Nat} (hv : xV N c j) : ad c j < H.size := (h c j hv).lt
theorem xW.new {q : Nat} {e : va_E} (h : xW D cA ad g tt N H) (hN : xNw D q e H H1) : xW D cA ad g tt N H1 := h.keep fun c j hcj => hN.2.2.2 _ (h.lt hcj)
theorem xC_t4 {f : Nat → Int32} (c j : Nat) (h : c ≠ 3) : xC cA ad (va_up g 4 f) tt N c j = xC cA ad g tt N c j := by
  rcases c with _|_|_|_|c
  · rcases j with _|_|_|_|_|_|_|_|_|_|j
    · rfl
    · rfl
    · rfl
    · rfl
    · rfl
    · rfl
    · rfl
    · rfl
    · rfl
    · rfl
    · rfl
  · rfl
  · rfl
  · exact absurd rfl h
  · rfl
theorem xC_t5 {f : Nat → Int32} (c j : Nat) (h : c ≠ 3) : xC cA ad (va_up g 5 f) tt N c j = xC cA ad g tt N c j := by
  rcases c with _|_|_|_|c
  · rcases j with _|_|_|_|_|_|_|_|_|_|j
    · rfl
    · rfl
    · rfl
    · rfl
    · rfl
    · rfl
    · rfl
    · rfl
    · rfl
    · rfl
    · rfl
  · rfl
  · rfl
  · exact absurd rfl h
  · rfl
theorem xC_t6 {f : Nat → Int32} (c j : Nat) (h : c ≠ 3) : xC cA ad (va_up g 6 f) tt N c j = xC cA ad g tt N c j := by
  rcases c with _|_|_|_|c
  · rcases j with _|_|_|_|_|_|_|_|_|_|j
    · rfl
    · rfl
    · rfl
    · rfl
    · rfl
    · rfl
    · rfl
    · rfl
    · rfl
    · rfl
    · rfl
  · rfl
  · rfl
  · exact absurd rfl h
  · rfl
theorem xC_t7 {f : Nat → Int32} (c j : Nat) (h : c ≠ 3) : xC cA ad (va_up g 7 f) tt N c j = xC cA ad g tt N c j := by
  rcases c with _|_|_|_|c
  · rcases j with _|_|_|_|_|_|_|_|_|_|j
    · rfl
    · rfl
    · rfl
    · rfl
    · rfl
    · rfl
    · rfl
    · rfl
    · rfl
    · rfl
    · rfl
  · rfl
  · rfl
  · exact absurd rfl h
  · rfl
theorem xC_t8 {f : Nat → Int32} (c j : Nat) (h : c ≠ 3) : xC cA ad (va_up g 8 f) tt N c j = xC cA ad g tt N c j := by
  rcases c with _|_|_|_|c
  · rcases j with _|_|_|_|_|_|_|_|_|_|j
    · rfl
    · rfl
    · rfl
    · rfl
    · rfl
    · rfl
    · rfl
    · rfl
    · rfl
    · rfl
    · rfl
  · rfl
  · rfl
  · exact absurd rfl h
  · rfl
theorem xC_t9 {f : Nat → Int32} (c j : Nat) (h : c ≠ 3) : xC cA ad (va_up g 9 f) tt N c j = xC cA ad g tt N c j := by
  rcases c with _|_|_|_|c
  · rcases j with _|_|_|_|_|_|_|_|_|_|j
    · rfl
    · rfl
    · rfl
    · rfl
    · rfl
    · rfl
    · rfl
    · rfl
    · rfl
    · rfl
    · rfl
  · rfl
  · rfl
  · exact absurd rfl h
  · rfl
theorem xC_t1 {f : Nat → Int32} (c j : Nat) (h : c ≠ 1) : xC cA ad (va_up g 1 f) tt N c j = xC cA ad g tt N c j := by
  rcases c with _|_|_|_|c
  · rcases j with _|_|_|_|_|_|_|_|_|_|j
    · rfl
    · rfl
    · rfl
    · rfl
    · rfl
    · rfl
    · rfl
    · rfl
    · rfl
    · rfl
    · rfl
  · exact absurd rfl h
  · rfl
  · rfl
  · rfl
theorem xC_t2 {f : Nat → Int32} (c j : Nat) (h : c ≠ 1) : xC cA ad (va_up g 2 f) tt N c j = xC cA ad g tt N c j := by
  rcases c with _|_|_|_|c
  · rcases j with _|_|_|_|_|_|_|_|_|_|j
    · rfl
    · rfl
    · rfl
    · rfl
    · rfl
    · rfl
    · rfl
    · rfl
    · rfl
    · rfl
    · rfl
  · exact absurd rfl h
  · rfl
  · rfl
  · rfl
theorem xC_t13 {f : Nat → Int32} (c j : Nat) (h : ¬ (c = 0 ∧ j = 0)) : xC cA ad (va_up g 13 f) tt N c j = xC cA ad g tt N c j := by
  rcases c with _|_|_|_|c
  · rcases j with _|_|_|_|_|_|_|_|_|_|j
    · exact absurd (by omega) h
    · rfl
    · rfl
    · rfl
    · rfl
    · rfl
    · rfl
    · rfl
    · rfl
    · rfl
    · rfl
  · rfl
  · rfl
  · rfl
  · rfl
theorem xC_t14 {f : Nat → Int32} (c j : Nat) (h : ¬ (c = 0 ∧ j = 4)) : xC cA ad (va_up g 14 f) tt N c j = xC cA ad g tt N c j := by
  rcases c with _|_|_|_|c
  · rcases j with _|_|_|_|_|_|_|_|_|_|j
    · rfl
    · rfl
    · rfl
    · rfl
    · exact absurd (by omega) h
    · rfl
    · rfl
    · rfl
    · rfl
    · rfl
    · rfl
  · rfl
  · rfl
  · rfl
  · rfl
theorem xC_t15 {f : Nat → Int32} (c j : Nat) (h : ¬ (c = 0 ∧ j = 5)) : xC cA ad (va_up g 15 f) tt N c j = xC cA ad g tt N c j := by
  rcases c with _|_|_|_|c
  · rcases j with _|_|_|_|_|_|_|_|_|_|j
    · rfl
    · rfl
    · rfl
    · rfl
    · rfl
    · exact absurd (by omega) h
    · rfl
    · rfl
    · rfl
    · rfl
    · rfl
  · rfl
  · rfl
  · rfl
  · rfl
theorem xC_t16 {f : Nat → Int32} (c j : Nat) (h : ¬ (c = 0 ∧ j = 6)) : xC cA ad (va_up g 16 f) tt N c j = xC cA ad g tt N c j := by
  rcases c with _|_|_|_|c
  · rcases j with _|_|_|_|_|_|_|_|_|_|j
    · rfl
    · rfl
    · rfl
    · rfl
    · rfl
    · rfl
    · exact absurd (by omega) h
    · rfl
    · rfl
    · rfl
    · rfl
  · rfl
  · rfl
  · rfl
  · rfl
theorem xC_t17 {f : Nat → Int32} (c j : Nat) (h : ¬ (c = 0 ∧ j = 8)) : xC cA ad (va_up g 17 f) tt N c j = xC cA ad g tt N c j := by
  rcases c with _|_|_|_|c
  · rcases j with _|_|_|_|_|_|_|_|_|_|j
    · rfl
    · rfl
    · rfl
    · rfl
    · rfl
    · rfl
    · rfl
    · rfl
    · exact absurd (by omega) h
    · rfl
    · rfl
  · rfl
  · rfl
  · rfl
  · rfl
theorem xC_t3 {f : Nat → Int32} (c j : Nat) (h : ¬ (c = 0 ∧ j = 7)) : xC cA ad (va_up g 3 f) tt N c j = xC cA ad g tt N c j := by
  rcases c with _|_|_|_|c
  · rcases j with _|_|_|_|_|_|_|_|_|_|j
    · rfl
    · rfl
    · rfl
    · rfl
    · rfl
    · rfl
    · rfl
    · exact absurd (by omega) h
    · rfl
    · rfl
    · rfl
  · rfl
  · rfl
  · rfl
  · rfl
theorem xC_tt {tt' : Nat → Int64} (c j : Nat) (h : ¬ (c = 0 ∧ j = 0)) : xC cA ad g tt' N c j = xC cA ad g tt N c j := by
  rcases c with _|_|_|_|c
  · rcases j with _|_|_|_|_|_|_|_|_|_|j
    · exact absurd (by omega) h
    · rfl
    · rfl
    · rfl
    · rfl
    · rfl
    · rfl
    · rfl
    · rfl
    · rfl
    · rfl
  · rfl
  · rfl
  · rfl
  · rfl
theorem xW.ps4 {k : Nat} {v : Int32} (h : xW D cA ad g tt N H) (hA : xA A e0 ad N) (hk : k < 6 * N 0) (hU : xUp D (ad 3 k) (.inr (4, [.int v, .int (g 5 k), .int (g 6 k), .int (g 7 k), .int (g 8 k), .int (g 9 k)])) H H1) : xW D cA ad (va_up g 4 (upd (g 4) k v)) tt N H1 := by
  refine h.put hA (xV3 hk) hU (by simp [xC, va_up, upd]) (fun c j hv hn => ?_)
  by_cases hc : c = 3
  · subst hc
    have hj : j ≠ k := fun z => hn ⟨rfl, z⟩
    simp [xC, va_up, upd, hj]
  · exact xC_t4 c j hc
theorem xW.ps5 {k : Nat} {v : Int32} (h : xW D cA ad g tt N H) (hA : xA A e0 ad N) (hk : k < 6 * N 0) (hU : xUp D (ad 3 k) (.inr (4, [.int (g 4 k), .int v, .int (g 6 k), .int (g 7 k), .int (g 8 k), .int (g 9 k)])) H H1) : xW D cA ad (va_up g 5 (upd (g 5) k v)) tt N H1 := by
  refine h.put hA (xV3 hk) hU (by simp [xC, va_up, upd]) (fun c j hv hn => ?_)
  by_cases hc : c = 3
  · subst hc
    have hj : j ≠ k := fun z => hn ⟨rfl, z⟩
    simp [xC, va_up, upd, hj]
  · exact xC_t5 c j hc
theorem xW.ps6 {k : Nat} {v : Int32} (h : xW D cA ad g tt N H) (hA : xA A e0 ad N) (hk : k < 6 * N 0) (hU : xUp D (ad 3 k) (.inr (4, [.int (g 4 k), .int (g 5 k), .int v, .int (g 7 k), .int (g 8 k), .int (g 9 k)])) H H1) : xW D cA ad (va_up g 6 (upd (g 6) k v)) tt N H1 := by
  refine h.put hA (xV3 hk) hU (by simp [xC, va_up, upd]) (fun c j hv hn => ?_)
  by_cases hc : c = 3
  · subst hc
    have hj : j ≠ k := fun z => hn ⟨rfl, z⟩
    simp [xC, va_up, upd, hj]
  · exact xC_t6 c j hc
theorem xW.ps7 {k : Nat} {v : Int32} (h : xW D cA ad g tt N H) (hA : xA A e0 ad N) (hk : k < 6 * N 0) (hU : xUp D (ad 3 k) (.inr (4, [.int (g 4 k), .int (g 5 k), .int (g 6 k), .int v, .int (g 8 k), .int (g 9 k)])) H H1) : xW D cA ad (va_up g 7 (upd (g 7) k v)) tt N H1 := by
  refine h.put hA (xV3 hk) hU (by simp [xC, va_up, upd]) (fun c j hv hn => ?_)
  by_cases hc : c = 3
  · subst hc
    have hj : j ≠ k := fun z => hn ⟨rfl, z⟩
    simp [xC, va_up, upd, hj]
  · exact xC_t7 c j hc
theorem xW.ps8 {k : Nat} {v : Int32} (h : xW D cA ad g tt N H) (hA : xA A e0 ad N) (hk : k < 6 * N 0) (hU : xUp D (ad 3 k) (.inr (4, [.int (g 4 k), .int (g 5 k), .int (g 6 k), .int (g 7 k), .int v, .int (g 9 k)])) H H1) : xW D cA ad (va_up g 8 (upd (g 8) k v)) tt N H1 := by
  refine h.put hA (xV3 hk) hU (by simp [xC, va_up, upd]) (fun c j hv hn => ?_)
  by_cases hc : c = 3
  · subst hc
    have hj : j ≠ k := fun z => hn ⟨rfl, z⟩
    simp [xC, va_up, upd, hj]
  · exact xC_t8 c j hc
theorem xW.ps9 {k : Nat} {v : Int32} (h : xW D cA ad g tt N H) (hA : xA A e0 ad N) (hk : k < 6 * N 0) (hU : xUp D (ad 3 k) (.inr (4, [.int (g 4 k), .int (g 5 k), .int (g 6 k), .int (g 7 k), .int (g 8 k), .int v])) H H1) : xW D cA ad (va_up g 9 (upd (g 9) k v)) tt N H1 := by
  refine h.put hA (xV3 hk) hU (by simp [xC, va_up, upd]) (fun c j hv hn => ?_)
  by_cases hc : c = 3
  · subst hc
    have hj : j ≠ k := fun z => hn ⟨rfl, z⟩
    simp [xC, va_up, upd, hj]
  · exact xC_t9 c j hc
theorem xW.pm1 {i : Nat} {v : Int32} (h : xW D cA ad g tt N H) (hA : xA A e0 ad N) (hi : i < N 0) (hU : xUp D (ad 1 i) (.inr (1, [.int (g 0 i), .ref (ad 2 i), .int v, .int (g 2 i)])) H H1) : xW D cA ad (va_up g 1 (upd (g 1) i v)) tt N H1 := by
  refine h.put hA (xV1 hi) hU (by simp [xC, va_up, upd]) (fun c j hv hn => ?_)
  by_cases hc : c = 1
  · subst hc
    have hj : j ≠ i := fun z => hn ⟨rfl, z⟩
    simp [xC, va_up, upd, hj]
  · exact xC_t1 c j hc
theorem xW.pm2 {i : Nat} {v : Int32} (h : xW D cA ad g tt N H) (hA : xA A e0 ad N) (hi : i < N 0) (hU : xUp D (ad 1 i) (.inr (1, [.int (g 0 i), .ref (ad 2 i), .int (g 1 i), .int v])) H H1) : xW D cA ad (va_up g 2 (upd (g 2) i v)) tt N H1 := by
  refine h.put hA (xV1 hi) hU (by simp [xC, va_up, upd]) (fun c j hv hn => ?_)
  by_cases hc : c = 1
  · subst hc
    have hj : j ≠ i := fun z => hn ⟨rfl, z⟩
    simp [xC, va_up, upd, hj]
  · exact xC_t2 c j hc
theorem xW.pr14 {f : Nat → Int32} (h : xW D cA ad g tt N H) (hA : xA A e0 ad N) (hU : xUp D (ad 0 4) (.inl (cA 0, 8, .inl f)) H H1) : xW D cA ad (va_up g 14 f) tt N H1 := by
  refine h.put hA (xV0 (by omega)) hU (by simp [xC, va_up]) (fun c j hv hn => xC_t14 c j hn)
theorem xW.pr15 {f : Nat → Int32} (h : xW D cA ad g tt N H) (hA : xA A e0 ad N) (hU : xUp D (ad 0 5) (.inl (cA 0, 8, .inl f)) H H1) : xW D cA ad (va_up g 15 f) tt N H1 := by
  refine h.put hA (xV0 (by omega)) hU (by simp [xC, va_up]) (fun c j hv hn => xC_t15 c j hn)
theorem xW.pr16 {f : Nat → Int32} (h : xW D cA ad g tt N H) (hA : xA A e0 ad N) (hU : xUp D (ad 0 6) (.inl (cA 0, 8, .inl f)) H H1) : xW D cA ad (va_up g 16 f) tt N H1 := by
  refine h.put hA (xV0 (by omega)) hU (by simp [xC, va_up]) (fun c j hv hn => xC_t16 c j hn)
theorem xW.pr17 {f : Nat → Int32} (h : xW D cA ad g tt N H) (hA : xA A e0 ad N) (hU : xUp D (ad 0 8) (.inl (cA 0, 2048, .inl f)) H H1) : xW D cA ad (va_up g 17 f) tt N H1 := by
  refine h.put hA (xV0 (by omega)) hU (by simp [xC, va_up]) (fun c j hv hn => xC_t17 c j hn)
/-- the ways -/
theorem xW.pways {f f' : Nat → Int32} (h : xW D cA ad g tt N H) (hA : xA A e0 ad N) (hf : ∀ p, f' (xpm p) = f p) (hU : xUp D (ad 0 7) (.inl (cA 0, 81, .inl f)) H H1) : xW D cA ad (va_up g 3 f') tt N H1 := by
  refine h.put hA (xV0 (by omega)) hU (by simp [xC, va_up, hf]) (fun c j hv hn => xC_t3 c j hn)
/-- the main object's day and totals -/
theorem xW.pday {v : Int32} (h : xW D cA ad g tt N H) (hA : xA A e0 ad N) (hU : xUp D (ad 0 0) (.inr (5, [.ref (ad 0 1), .ref (ad 0 2), .ref (ad 0 3), .ref (ad 0 4), .ref (ad 0 5), .ref (ad 0 6), .int v, .long (tt 0), .long (tt 1), .long (tt 2), .long (tt 3)])) H H1) : xW D cA ad (va_up g 13 (upd (g 13) 0 v)) tt N H1 := by
  refine h.put hA (xV0 (by omega)) hU (by simp [xC, va_up, upd]) (fun c j hv hn => xC_t13 c j hn)
theorem xW.ptt {tt' : Nat → Int64} (h : xW D cA ad g tt N H) (hA : xA A e0 ad N) (hU : xUp D (ad 0 0) (.inr (5, [.ref (ad 0 1), .ref (ad 0 2), .ref (ad 0 3), .ref (ad 0 4), .ref (ad 0 5), .ref (ad 0 6), .int (g 13 0), .long (tt' 0), .long (tt' 1), .long (tt' 2), .long (tt' 3)])) H H1) : xW D cA ad g tt' N H1 := by
  refine h.put hA (xV0 (by omega)) hU rfl (fun c j hv hn => xC_tt c j hn)
end XW
