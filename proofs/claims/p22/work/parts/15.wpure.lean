/-! Facts of tables written. -/
theorem up_ne {α : Type} {g : Nat → α} {k : Nat} {f : α} {j : Nat} (h : j ≠ k) : va_up g k f j = g j := if_neg h
theorem up_eq {α : Type} {g : Nat → α} {k : Nat} {f : α} : va_up g k f k = f := if_pos rfl
theorem upd_ne {f : Nat → Int32} {k : Nat} {v : Int32} {j : Nat} (h : j ≠ k) : upd f k v j = f j := if_neg h
theorem upd_eq {f : Nat → Int32} {k : Nat} {v : Int32} : upd f k v k = v := if_pos rfl
theorem lackF_c {g g' : Nat → Nat → Int32} (h4 : g' 4 = g 4) (h5 : g' 5 = g 5) (i : Nat) : lackF g' i = lackF g i := by
  unfold lackF
  rw [h4, h5]
theorem gainF_c {g g' : Nat → Nat → Int32} (h1 : g' 1 = g 1) (h4 : g' 4 = g 4) (h5 : g' 5 = g 5) (h6 : g' 6 = g 6) (i : Nat) : gainF g' i = gainF g i := by
  unfold gainF
  rw [h1, h4, h5, h6]
theorem vtF_c {g g' : Nat → Nat → Int32} (h4 : g' 4 = g 4) (h5 : g' 5 = g 5) (i : Nat) : vtF g' i = vtF g i := by
  unfold vtF
  rw [lackF_c h4 h5]
theorem wy_c {g g' : Nat → Nat → Int32} (h3 : g' 3 = g 3) : wy g' = wy g := by
  funext a b
  unfold wy
  rw [h3]
theorem hwOK_c {g g' : Nat → Nat → Int32} (h3 : g' 3 = g 3) (h17 : g' 17 = g 17) {S : Nat} (h : hwOK g S) : hwOK g' S := by
  unfold hwOK
  rw [wy_c h3, h17]
  exact h
theorem hwAll_c {g g' : Nat → Nat → Int32} (h3 : g' 3 = g 3) (h17 : g' 17 = g 17) {n : Nat} (h : hwAll g n) : hwAll g' n := fun S hS => hwOK_c h3 h17 (h S hS)
/-- what survey leaves -/
def svOK (g g' : Nat → Nat → Int32) (n : Nat) : Prop := (∀ k, k ≠ 14 → k ≠ 15 → k ≠ 16 → g' k = g k) ∧ ∀ i, i < n → g' 14 i = vtF g i ∧ g' 15 i = lackF g i ∧ g' 16 i = gainF g i
theorem sv_step {g g1 : Nat → Nat → Int32} {i : Nat} (h : svOK g g1 i) : svOK g (va_up (va_up (va_up g1 15 (upd (g1 15) i (lackF g1 i))) 16 (upd (va_up g1 15 (upd (g1 15) i (lackF g1 i)) 16) i (gainF (va_up g1 15 (upd (g1 15) i (lackF g1 i))) i))) 14 (upd (va_up (va_up g1 15 (upd (g1 15) i (lackF g1 i))) 16 (upd (va_up g1 15 (upd (g1 15) i (lackF g1 i)) 16) i (gainF (va_up g1 15 (upd (g1 15) i (lackF g1 i))) i)) 14) i (vtF (va_up (va_up g1 15 (upd (g1 15) i (lackF g1 i))) 16 (upd (va_up g1 15 (upd (g1 15) i (lackF g1 i)) 16) i (gainF (va_up g1 15 (upd (g1 15) i (lackF g1 i))) i))) i))) (i + 1) := by
  have e1 := h.1 1 (by omega) (by omega) (by omega)
  have e4 := h.1 4 (by omega) (by omega) (by omega)
  have e5 := h.1 5 (by omega) (by omega) (by omega)
  have e6 := h.1 6 (by omega) (by omega) (by omega)
  generalize hg2 : va_up g1 15 (upd (g1 15) i (lackF g1 i)) = g2
  have f : ∀ k, k ≠ 15 → g2 k = g1 k := fun k hk => by rw [← hg2]; exact up_ne hk
  have f15 : g2 15 = upd (g1 15) i (lackF g1 i) := by rw [← hg2]; exact up_eq
  generalize hg3 : va_up g2 16 (upd (g2 16) i (gainF g2 i)) = g3
  have f3 : ∀ k, k ≠ 16 → g3 k = g2 k := fun k hk => by rw [← hg3]; exact up_ne hk
  have f16 : g3 16 = upd (g2 16) i (gainF g2 i) := by rw [← hg3]; exact up_eq
  have l2 : lackF g1 i = lackF g i := lackF_c e4 e5 i
  have g2e : gainF g2 i = gainF g i := gainF_c ((f 1 (by omega)).trans e1) ((f 4 (by omega)).trans e4) ((f 5 (by omega)).trans e5) ((f 6 (by omega)).trans e6) i
  have v3 : vtF g3 i = vtF g i := vtF_c (((f3 4 (by omega)).trans (f 4 (by omega))).trans e4) (((f3 5 (by omega)).trans (f 5 (by omega))).trans e5) i
  refine ⟨fun k h14 h15 h16 => ?_, fun j hj => ?_⟩
  · rw [up_ne h14, f3 k h16, f k h15]
    exact h.1 k h14 h15 h16
  · rw [up_eq, up_ne (show 15 ≠ 14 by omega), up_ne (show 16 ≠ 14 by omega), f3 15 (by omega), f15, f16, f3 14 (by omega), f 14 (by omega), f 16 (by omega), l2, g2e, v3]
    by_cases hji : j = i
    · subst hji
      rw [upd_eq, upd_eq, upd_eq]
      exact ⟨rfl, rfl, rfl⟩
    · rw [upd_ne hji, upd_ne hji, upd_ne hji]
      exact h.2 j (by omega)
theorem selF_c {S : Nat} {f f' : Nat → Int32} : ∀ {k : Nat}, (∀ m, m < k → S.testBit m = true → f m = f' m) → selF S f k = selF S f' k
  | 0, _ => rfl
  | k + 1, h => by
    have ih := selF_c (k := k) (fun m hm hb => h m (Nat.lt_succ_of_lt hm) hb)
    by_cases hb : S.testBit k = true
    · rw [selF_yes hb, selF_yes hb, ih, h k (Nat.lt_succ_self k) hb]
    · rw [selF_no hb, selF_no hb, ih]
/-- the ways set -/
def swF (f : Nat → Int32) (a b : Nat) (v : Int32) : Nat → Int32 := upd (upd f (9 * a + b) v) (9 * b + a) v
theorem xpm_inj {a b p : Nat} (ha : a ≤ 8) (hb : b ≤ 8) (hp : p < 81) : xpm p = 9 * a + b ↔ p = (a + 1) % 9 * 9 + (b + 1) % 9 := by
  unfold xpm
  omega
theorem sw_ok (f : Nat → Int32) {a b : Nat} (ha : a ≤ 8) (hb : b ≤ 8) (v : Int32) {p : Nat} (hp : p < 81) : swF f a b v (xpm p) = upd (upd (fun p => f (xpm p)) ((a + 1) % 9 * 9 + (b + 1) % 9) v) ((b + 1) % 9 * 9 + (a + 1) % 9) v p := by
  unfold swF
  by_cases h1 : p = (b + 1) % 9 * 9 + (a + 1) % 9
  · rw [(xpm_inj hb ha hp).mpr h1, upd_eq, h1, upd_eq]
  · rw [upd_ne h1, upd_ne (fun z => h1 ((xpm_inj hb ha hp).mp z))]
    by_cases h2 : p = (a + 1) % 9 * 9 + (b + 1) % 9
    · rw [(xpm_inj ha hb hp).mpr h2, upd_eq, h2, upd_eq]
    · rw [upd_ne h2, upd_ne (fun z => h2 ((xpm_inj ha hb hp).mp z))]
theorem arrV_c {c : ClassId} {n : Nat} {f f' : Nat → Value} (h : ∀ j, j < n → f j = f' j) : arrV c n f = arrV c n f' := by
  unfold arrV
  congr 2
  funext j
  exact h j.val j.isLt
theorem xUp_i {D : va_G} {a n : Nat} {c : ClassId} {f f' : Nat → Int32} {H H1 : Heap} (h : ∀ j, j < n → f j = f' j) (hU : xUp D a (.inl (c, n, .inl f)) H H1) : xUp D a (.inl (c, n, .inl f')) H H1 := by
  refine ⟨?_, hU.2⟩
  have h1 : H1[a]? = some (arrV c n (fun j => .int (f j))) := hU.1
  show H1[a]? = some (arrV c n (fun j => .int (f' j)))
  rw [h1, arrV_c (fun j hj => by rw [h j hj])]
theorem xW.pw {D : va_G} {cA : Nat → ClassId} {ad : Nat → Nat → Nat} {g : Nat → Nat → Int32} {tt : Nat → Int64} {N : Nat → Nat} {H H1 : Heap} {A : Nat → Prop} {e0 a b : Nat} {v : Int32} (h : xW D cA ad g tt N H) (hA : xA A e0 ad N) (ha : a ≤ 8) (hb : b ≤ 8) (hU : xUp D (ad 0 7) (.inl (cA 0, 81, .inl (upd (fun p => g 3 (xpm p)) ((a + 1) % 9 * 9 + (b + 1) % 9) v))) H H1) : xW D cA ad (va_up g 3 (upd (g 3) (9 * a + b) v)) tt N H1 := by
  refine xW.pways h hA (f := fun p => upd (g 3) (9 * a + b) v (xpm p)) (fun _ => rfl) (xUp_i (fun p hp => ?_) hU)
  by_cases h1 : p = (a + 1) % 9 * 9 + (b + 1) % 9
  · rw [(xpm_inj ha hb hp).mpr h1, upd_eq, h1, upd_eq]
  · rw [upd_ne h1, upd_ne (fun z => h1 ((xpm_inj ha hb hp).mp z))]
/-- the ways home, half made: all sets below S, and of S the members below k -/
def mtOK (g g1 : Nat → Nat → Int32) (S k : Nat) : Prop := (∀ j, j ≠ 17 → g1 j = g j) ∧ (∀ S', S' < S → hwOK g1 S') ∧ ∀ m, m < k → S.testBit m = true → g1 17 (S * 8 + m) = tw (wy g) (S - 2 ^ m) m
theorem mt_0 (g : Nat → Nat → Int32) : mtOK g g 1 0 := by
  refine ⟨fun _ _ => rfl, fun S' h m _ hb => ?_, fun m h => absurd h (Nat.not_lt_zero _)⟩
  obtain rfl : S' = 0 := by omega
  rw [Nat.zero_testBit] at hb
  cases hb
theorem mt_no {g g1 : Nat → Nat → Int32} {S k : Nat} (h : mtOK g g1 S k) (hb : ¬ S.testBit k = true) : mtOK g g1 S (k + 1) := ⟨h.1, h.2.1, fun m hm hbm => by
  rcases Nat.lt_or_ge m k with q | q
  · exact h.2.2 m q hbm
  · obtain rfl : m = k := by omega
    exact absurd hbm hb⟩
theorem mt_yes {g g1 : Nat → Nat → Int32} {S k : Nat} (h : mtOK g g1 S k) (hk : k < 8) : mtOK g (va_up g1 17 (upd (g1 17) (S * 8 + k) (tw (wy g1) (S - 2 ^ k) k))) S (k + 1) := by
  have hw : wy g1 = wy g := wy_c (h.1 3 (by omega))
  generalize hg2 : va_up g1 17 (upd (g1 17) (S * 8 + k) (tw (wy g1) (S - 2 ^ k) k)) = g2
  have f : ∀ j, j ≠ 17 → g2 j = g1 j := fun j hj => by rw [← hg2]; exact up_ne hj
  have f17 : g2 17 = upd (g1 17) (S * 8 + k) (tw (wy g1) (S - 2 ^ k) k) := by rw [← hg2]; exact up_eq
  have hw2 : wy g2 = wy g1 := wy_c (f 3 (by omega))
  refine ⟨fun j hj => (f j hj).trans (h.1 j hj), fun S' hS m hm hb => ?_, fun m hm hb => ?_⟩
  · rw [f17, upd_ne (by omega), hw2]
    exact h.2.1 S' hS m hm hb
  · rw [f17]
    by_cases hmk : m = k
    · subst hmk
      rw [upd_eq, hw]
    · rw [upd_ne (by omega)]
      exact h.2.2 m (by omega) hb
theorem mt_next {g g1 : Nat → Nat → Int32} {S n : Nat} (h : mtOK g g1 S n) (hn : n ≤ 8) (hS : S < 2 ^ n) : mtOK g g1 (S + 1) 0 := by
  refine ⟨h.1, fun S' hS' => ?_, fun m h => absurd h (Nat.not_lt_zero _)⟩
  rcases Nat.lt_or_ge S' S with q | q
  · exact h.2.1 S' q
  · obtain rfl : S' = S := by omega
    intro m hm hb
    rw [wy_c (h.1 3 (by omega))]
    exact h.2.2 m (bit_n hS hb) hb
