/-! What a state of the model is: tables 0..9 and 13 as the class has them; 20 thrown, 21 the planned changes in threes, 22 the rest of a round by set and place. -/
def yC (cA : Nat → ClassId) (b : Nat → Nat) (g : Nat → Nat → Int32) (tt : Nat → Int64) (n np : Nat) : Nat → va_E
  | 0 => .inr (6, [.int (g 20 0), .int (g 13 0), .int (nI n), .ref (b 1), .ref (b 2), .ref (b 3), .ref (b 4), .ref (b 5), .ref (b 6), .ref (b 7), .ref (b 8), .ref (b 9), .ref (b 10), .int (nI np), .ref (b 11), .ref (b 12), .ref (b 13)])
  | 1 => .inl (cA 0, 8, .inl (g 0))
  | 2 => .inl (cA 0, 8, .inl (g 1))
  | 3 => .inl (cA 0, 8, .inl (g 2))
  | 4 => .inl (cA 0, 81, .inl (g 3))
  | 5 => .inl (cA 0, 48, .inl (g 4))
  | 6 => .inl (cA 0, 48, .inl (g 5))
  | 7 => .inl (cA 0, 48, .inl (g 6))
  | 8 => .inl (cA 0, 48, .inl (g 7))
  | 9 => .inl (cA 0, 48, .inl (g 8))
  | 10 => .inl (cA 0, 48, .inl (g 9))
  | 11 => .inl (cA 0, 60, .inl (g 21))
  | 12 => .inl (cA 1, 4, .inr (.inl tt))
  | _ => .inl (cA 0, 2304, .inl (g 22))
def yW (D : va_G) (cA : Nat → ClassId) (b : Nat → Nat) (g : Nat → Nat → Int32) (tt : Nat → Int64) (n np : Nat) (H : Heap) : Prop := ∀ j, j < 14 → va_at D vwCl (b j, yC cA b g tt n np j) H
def yA (A : Nat → Prop) (b : Nat → Nat) (n np : Nat) : Prop := (∀ i j, i < 14 → j < 14 → b i = b j → i = j) ∧ (∀ j, j < 14 → A (b j)) ∧ n ≤ 8 ∧ np ≤ 20
section YW
variable {D : va_G} {cA : Nat → ClassId} {b : Nat → Nat} {g : Nat → Nat → Int32} {tt : Nat → Int64} {n np : Nat} {H H1 : Heap} {A : Nat → Prop}
theorem yW.main (h : yW D cA b g tt n np H) : va_at D vwCl (b 0, .inr (6, [.int (g 20 0), .int (g 13 0), .int (nI n), .ref (b 1), .ref (b 2), .ref (b 3), .ref (b 4), .ref (b 5), .ref (b 6), .ref (b 7), .ref (b 8), .ref (b 9), .ref (b 10), .int (nI np), .ref (b 11), .ref (b 12), .ref (b 13)])) H := h 0 (by omega)
theorem yW.t0 (h : yW D cA b g tt n np H) : va_at D vwCl (b 1, .inl (cA 0, 8, .inl (g 0))) H := h 1 (by omega)
theorem yW.t1 (h : yW D cA b g tt n np H) : va_at D vwCl (b 2, .inl (cA 0, 8, .inl (g 1))) H := h 2 (by omega)
theorem yW.t2 (h : yW D cA b g tt n np H) : va_at D vwCl (b 3, .inl (cA 0, 8, .inl (g 2))) H := h 3 (by omega)
theorem yW.t3 (h : yW D cA b g tt n np H) : va_at D vwCl (b 4, .inl (cA 0, 81, .inl (g 3))) H := h 4 (by omega)
theorem yW.t4 (h : yW D cA b g tt n np H) : va_at D vwCl (b 5, .inl (cA 0, 48, .inl (g 4))) H := h 5 (by omega)
theorem yW.t5 (h : yW D cA b g tt n np H) : va_at D vwCl (b 6, .inl (cA 0, 48, .inl (g 5))) H := h 6 (by omega)
theorem yW.t6 (h : yW D cA b g tt n np H) : va_at D vwCl (b 7, .inl (cA 0, 48, .inl (g 6))) H := h 7 (by omega)
theorem yW.t7 (h : yW D cA b g tt n np H) : va_at D vwCl (b 8, .inl (cA 0, 48, .inl (g 7))) H := h 8 (by omega)
theorem yW.t8 (h : yW D cA b g tt n np H) : va_at D vwCl (b 9, .inl (cA 0, 48, .inl (g 8))) H := h 9 (by omega)
theorem yW.t9 (h : yW D cA b g tt n np H) : va_at D vwCl (b 10, .inl (cA 0, 48, .inl (g 9))) H := h 10 (by omega)
theorem yW.t21 (h : yW D cA b g tt n np H) : va_at D vwCl (b 11, .inl (cA 0, 60, .inl (g 21))) H := h 11 (by omega)
theorem yW.t22 (h : yW D cA b g tt n np H) : va_at D vwCl (b 13, .inl (cA 0, 2304, .inl (g 22))) H := h 13 (by omega)
theorem yW.tot (h : yW D cA b g tt n np H) : va_at D vwCl (b 12, .inl (cA 1, 4, .inr (.inl tt))) H := h 12 (by omega)
theorem yA.a (h : yA A b n np) {j : Nat} (k : j < 14) : A (b j) := h.2.1 j k
theorem yW.put {j0 : Nat} {e : va_E} {g' : Nat → Nat → Int32} {tt' : Nat → Int64} {n' np' : Nat} (h : yW D cA b g tt n np H) (hA : yA A b n np) (hv : j0 < 14) (hU : xUp D (b j0) e H H1) (he : yC cA b g' tt' n' np' j0 = e) (ho : ∀ j, j < 14 → j ≠ j0 → yC cA b g' tt' n' np' j = yC cA b g tt n np j) : yW D cA b g' tt' n' np' H1 := by
  intro j hj
  by_cases hc : j = j0
  · subst hc
    rw [he]
    exact hU.1
  · rw [ho j hj hc]
    exact (h j hj).kept (hU.2.2 _ (fun z => hc (hA.1 j j0 hj hv z)))
theorem yW.keep (h : yW D cA b g tt n np H) (hk : ∀ j, j < 14 → H1[b j]? = H[b j]?) : yW D cA b g tt n np H1 := fun j hj => (h j hj).kept (hk j hj)
theorem y14 {P : Nat → Prop} (h0 : P 0) (h1 : P 1) (h2 : P 2) (h3 : P 3) (h4 : P 4) (h5 : P 5) (h6 : P 6) (h7 : P 7) (h8 : P 8) (h9 : P 9) (h10 : P 10) (h11 : P 11) (h12 : P 12) (h13 : P 13) : ∀ j, j < 14 → P j := fun j hj => by
  rcases (show j = 0 ∨ j = 1 ∨ j = 2 ∨ j = 3 ∨ j = 4 ∨ j = 5 ∨ j = 6 ∨ j = 7 ∨ j = 8 ∨ j = 9 ∨ j = 10 ∨ j = 11 ∨ j = 12 ∨ j = 13 by omega) with rfl | rfl | rfl | rfl | rfl | rfl | rfl | rfl | rfl | rfl | rfl | rfl | rfl | rfl <;> assumption
theorem yW.p0 {f : Nat → Int32} (h : yW D cA b g tt n np H) (hA : yA A b n np) (hU : xUp D (b 1) (.inl (cA 0, 8, .inl f)) H H1) : yW D cA b (va_up g 0 f) tt n np H1 := h.put (j0 := 1) hA (by omega) hU rfl (y14 (fun _ => rfl) (fun z => absurd rfl z) (fun _ => rfl) (fun _ => rfl) (fun _ => rfl) (fun _ => rfl) (fun _ => rfl) (fun _ => rfl) (fun _ => rfl) (fun _ => rfl) (fun _ => rfl) (fun _ => rfl) (fun _ => rfl) (fun _ => rfl))
theorem yW.p1 {f : Nat → Int32} (h : yW D cA b g tt n np H) (hA : yA A b n np) (hU : xUp D (b 2) (.inl (cA 0, 8, .inl f)) H H1) : yW D cA b (va_up g 1 f) tt n np H1 := h.put (j0 := 2) hA (by omega) hU rfl (y14 (fun _ => rfl) (fun _ => rfl) (fun z => absurd rfl z) (fun _ => rfl) (fun _ => rfl) (fun _ => rfl) (fun _ => rfl) (fun _ => rfl) (fun _ => rfl) (fun _ => rfl) (fun _ => rfl) (fun _ => rfl) (fun _ => rfl) (fun _ => rfl))
theorem yW.p2 {f : Nat → Int32} (h : yW D cA b g tt n np H) (hA : yA A b n np) (hU : xUp D (b 3) (.inl (cA 0, 8, .inl f)) H H1) : yW D cA b (va_up g 2 f) tt n np H1 := h.put (j0 := 3) hA (by omega) hU rfl (y14 (fun _ => rfl) (fun _ => rfl) (fun _ => rfl) (fun z => absurd rfl z) (fun _ => rfl) (fun _ => rfl) (fun _ => rfl) (fun _ => rfl) (fun _ => rfl) (fun _ => rfl) (fun _ => rfl) (fun _ => rfl) (fun _ => rfl) (fun _ => rfl))
theorem yW.p3 {f : Nat → Int32} (h : yW D cA b g tt n np H) (hA : yA A b n np) (hU : xUp D (b 4) (.inl (cA 0, 81, .inl f)) H H1) : yW D cA b (va_up g 3 f) tt n np H1 := h.put (j0 := 4) hA (by omega) hU rfl (y14 (fun _ => rfl) (fun _ => rfl) (fun _ => rfl) (fun _ => rfl) (fun z => absurd rfl z) (fun _ => rfl) (fun _ => rfl) (fun _ => rfl) (fun _ => rfl) (fun _ => rfl) (fun _ => rfl) (fun _ => rfl) (fun _ => rfl) (fun _ => rfl))
theorem yW.p4 {f : Nat → Int32} (h : yW D cA b g tt n np H) (hA : yA A b n np) (hU : xUp D (b 5) (.inl (cA 0, 48, .inl f)) H H1) : yW D cA b (va_up g 4 f) tt n np H1 := h.put (j0 := 5) hA (by omega) hU rfl (y14 (fun _ => rfl) (fun _ => rfl) (fun _ => rfl) (fun _ => rfl) (fun _ => rfl) (fun z => absurd rfl z) (fun _ => rfl) (fun _ => rfl) (fun _ => rfl) (fun _ => rfl) (fun _ => rfl) (fun _ => rfl) (fun _ => rfl) (fun _ => rfl))
theorem yW.p5 {f : Nat → Int32} (h : yW D cA b g tt n np H) (hA : yA A b n np) (hU : xUp D (b 6) (.inl (cA 0, 48, .inl f)) H H1) : yW D cA b (va_up g 5 f) tt n np H1 := h.put (j0 := 6) hA (by omega) hU rfl (y14 (fun _ => rfl) (fun _ => rfl) (fun _ => rfl) (fun _ => rfl) (fun _ => rfl) (fun _ => rfl) (fun z => absurd rfl z) (fun _ => rfl) (fun _ => rfl) (fun _ => rfl) (fun _ => rfl) (fun _ => rfl) (fun _ => rfl) (fun _ => rfl))
theorem yW.p6 {f : Nat → Int32} (h : yW D cA b g tt n np H) (hA : yA A b n np) (hU : xUp D (b 7) (.inl (cA 0, 48, .inl f)) H H1) : yW D cA b (va_up g 6 f) tt n np H1 := h.put (j0 := 7) hA (by omega) hU rfl (y14 (fun _ => rfl) (fun _ => rfl) (fun _ => rfl) (fun _ => rfl) (fun _ => rfl) (fun _ => rfl) (fun _ => rfl) (fun z => absurd rfl z) (fun _ => rfl) (fun _ => rfl) (fun _ => rfl) (fun _ => rfl) (fun _ => rfl) (fun _ => rfl))
theorem yW.p7 {f : Nat → Int32} (h : yW D cA b g tt n np H) (hA : yA A b n np) (hU : xUp D (b 8) (.inl (cA 0, 48, .inl f)) H H1) : yW D cA b (va_up g 7 f) tt n np H1 := h.put (j0 := 8) hA (by omega) hU rfl (y14 (fun _ => rfl) (fun _ => rfl) (fun _ => rfl) (fun _ => rfl) (fun _ => rfl) (fun _ => rfl) (fun _ => rfl) (fun _ => rfl) (fun z => absurd rfl z) (fun _ => rfl) (fun _ => rfl) (fun _ => rfl) (fun _ => rfl) (fun _ => rfl))
theorem yW.p8 {f : Nat → Int32} (h : yW D cA b g tt n np H) (hA : yA A b n np) (hU : xUp D (b 9) (.inl (cA 0, 48, .inl f)) H H1) : yW D cA b (va_up g 8 f) tt n np H1 := h.put (j0 := 9) hA (by omega) hU rfl (y14 (fun _ => rfl) (fun _ => rfl) (fun _ => rfl) (fun _ => rfl) (fun _ => rfl) (fun _ => rfl) (fun _ => rfl) (fun _ => rfl) (fun _ => rfl) (fun z => absurd rfl z) (fun _ => rfl) (fun _ => rfl) (fun _ => rfl) (fun _ => rfl))
theorem yW.p9 {f : Nat → Int32} (h : yW D cA b g tt n np H) (hA : yA A b n np) (hU : xUp D (b 10) (.inl (cA 0, 48, .inl f)) H H1) : yW D cA b (va_up g 9 f) tt n np H1 := h.put (j0 := 10) hA (by omega) hU rfl (y14 (fun _ => rfl) (fun _ => rfl) (fun _ => rfl) (fun _ => rfl) (fun _ => rfl) (fun _ => rfl) (fun _ => rfl) (fun _ => rfl) (fun _ => rfl) (fun _ => rfl) (fun z => absurd rfl z) (fun _ => rfl) (fun _ => rfl) (fun _ => rfl))
theorem yW.p21 {f : Nat → Int32} (h : yW D cA b g tt n np H) (hA : yA A b n np) (hU : xUp D (b 11) (.inl (cA 0, 60, .inl f)) H H1) : yW D cA b (va_up g 21 f) tt n np H1 := h.put (j0 := 11) hA (by omega) hU rfl (y14 (fun _ => rfl) (fun _ => rfl) (fun _ => rfl) (fun _ => rfl) (fun _ => rfl) (fun _ => rfl) (fun _ => rfl) (fun _ => rfl) (fun _ => rfl) (fun _ => rfl) (fun _ => rfl) (fun z => absurd rfl z) (fun _ => rfl) (fun _ => rfl))
theorem yW.p22 {f : Nat → Int32} (h : yW D cA b g tt n np H) (hA : yA A b n np) (hU : xUp D (b 13) (.inl (cA 0, 2304, .inl f)) H H1) : yW D cA b (va_up g 22 f) tt n np H1 := h.put (j0 := 13) hA (by omega) hU rfl (y14 (fun _ => rfl) (fun _ => rfl) (fun _ => rfl) (fun _ => rfl) (fun _ => rfl) (fun _ => rfl) (fun _ => rfl) (fun _ => rfl) (fun _ => rfl) (fun _ => rfl) (fun _ => rfl) (fun _ => rfl) (fun _ => rfl) (fun z => absurd rfl z))
theorem yW.ptt {f : Nat → Int64} (h : yW D cA b g tt n np H) (hA : yA A b n np) (hU : xUp D (b 12) (.inl (cA 1, 4, .inr (.inl f))) H H1) : yW D cA b g f n np H1 := h.put (j0 := 12) hA (by omega) hU rfl (y14 (fun _ => rfl) (fun _ => rfl) (fun _ => rfl) (fun _ => rfl) (fun _ => rfl) (fun _ => rfl) (fun _ => rfl) (fun _ => rfl) (fun _ => rfl) (fun _ => rfl) (fun _ => rfl) (fun _ => rfl) (fun z => absurd rfl z) (fun _ => rfl))
theorem yW.pthr {v : Int32} (h : yW D cA b g tt n np H) (hA : yA A b n np) (hU : xUp D (b 0) (.inr (6, [.int (v), .int (g 13 0), .int (nI n), .ref (b 1), .ref (b 2), .ref (b 3), .ref (b 4), .ref (b 5), .ref (b 6), .ref (b 7), .ref (b 8), .ref (b 9), .ref (b 10), .int (nI np), .ref (b 11), .ref (b 12), .ref (b 13)])) H H1) : yW D cA b (va_up g 20 (upd (g 20) 0 v)) tt n np H1 := h.put (j0 := 0) hA (by omega) hU rfl (y14 (fun z => absurd rfl z) (fun _ => rfl) (fun _ => rfl) (fun _ => rfl) (fun _ => rfl) (fun _ => rfl) (fun _ => rfl) (fun _ => rfl) (fun _ => rfl) (fun _ => rfl) (fun _ => rfl) (fun _ => rfl) (fun _ => rfl) (fun _ => rfl))
theorem yW.pday {v : Int32} (h : yW D cA b g tt n np H) (hA : yA A b n np) (hU : xUp D (b 0) (.inr (6, [.int (g 20 0), .int (v), .int (nI n), .ref (b 1), .ref (b 2), .ref (b 3), .ref (b 4), .ref (b 5), .ref (b 6), .ref (b 7), .ref (b 8), .ref (b 9), .ref (b 10), .int (nI np), .ref (b 11), .ref (b 12), .ref (b 13)])) H H1) : yW D cA b (va_up g 13 (upd (g 13) 0 v)) tt n np H1 := h.put (j0 := 0) hA (by omega) hU rfl (y14 (fun z => absurd rfl z) (fun _ => rfl) (fun _ => rfl) (fun _ => rfl) (fun _ => rfl) (fun _ => rfl) (fun _ => rfl) (fun _ => rfl) (fun _ => rfl) (fun _ => rfl) (fun _ => rfl) (fun _ => rfl) (fun _ => rfl) (fun _ => rfl))
theorem yW.pn {m : Nat} (h : yW D cA b g tt n np H) (hA : yA A b n np) (hU : xUp D (b 0) (.inr (6, [.int (g 20 0), .int (g 13 0), .int (nI m), .ref (b 1), .ref (b 2), .ref (b 3), .ref (b 4), .ref (b 5), .ref (b 6), .ref (b 7), .ref (b 8), .ref (b 9), .ref (b 10), .int (nI np), .ref (b 11), .ref (b 12), .ref (b 13)])) H H1) : yW D cA b g tt m np H1 := h.put (j0 := 0) hA (by omega) hU rfl (y14 (fun z => absurd rfl z) (fun _ => rfl) (fun _ => rfl) (fun _ => rfl) (fun _ => rfl) (fun _ => rfl) (fun _ => rfl) (fun _ => rfl) (fun _ => rfl) (fun _ => rfl) (fun _ => rfl) (fun _ => rfl) (fun _ => rfl) (fun _ => rfl))
theorem yW.pnp {m : Nat} (h : yW D cA b g tt n np H) (hA : yA A b n np) (hU : xUp D (b 0) (.inr (6, [.int (g 20 0), .int (g 13 0), .int (nI n), .ref (b 1), .ref (b 2), .ref (b 3), .ref (b 4), .ref (b 5), .ref (b 6), .ref (b 7), .ref (b 8), .ref (b 9), .ref (b 10), .int (nI m), .ref (b 11), .ref (b 12), .ref (b 13)])) H H1) : yW D cA b g tt n m H1 := h.put (j0 := 0) hA (by omega) hU rfl (y14 (fun z => absurd rfl z) (fun _ => rfl) (fun _ => rfl) (fun _ => rfl) (fun _ => rfl) (fun _ => rfl) (fun _ => rfl) (fun _ => rfl) (fun _ => rfl) (fun _ => rfl) (fun _ => rfl) (fun _ => rfl) (fun _ => rfl) (fun _ => rfl))
end YW
