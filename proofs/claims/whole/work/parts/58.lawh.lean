/-! The law's own helpers: what catches what is thrown, the world of both sides together (by p58.py) -/
def xNc (U : State) : Prop := va_Nc xISE xIAE U ∧ va_Nc xIAE xIOB U ∧ va_Nc xISE xIOB U ∧ va_Nc xIOB xIAE U
theorem xNc.warm {s U : State} (hW : s.WarmedH U.vm) (h : xNc s) : xNc U := ⟨va_Nc.moved hW.alike h.1, va_Nc.moved hW.alike h.2.1, va_Nc.moved hW.alike h.2.2.1, va_Nc.moved hW.alike h.2.2.2⟩
/-- as xPc, with what can't be cast -/
abbrev xPn (D : va_G) (cA : Nat → ClassId) (e0 : Nat) (A : Nat → Prop) (H0 : Heap) (As : List Value) : Array Value → State → Prop := va_Pc As (fun U => U.heap = H0 ∧ xE D cA e0 A H0 U ∧ xNc U)
theorem xpSw {D : va_G} {cA : Nat → ClassId} {e0 : Nat} {A B : Nat → Prop} {s : State} {H : Heap} {locs : List Loc} {As : List Value} (hE : xE D cA e0 A s.heap s) (hN : xNc s) (hS : va_S A s.heap H locs) (hB : ∀ q, B q → A q) : PreS s H (xPn D cA e0 B H As) As :=
  ⟨fun a U g mk q => ⟨q.1, q.2.1, q.2.2.1.warm (U := U.calling g mk a) (State.WarmedH.refl U), q.2.2.2.warm (U := U.calling g mk a) (State.WarmedH.refl U)⟩, fun U hU hW => ⟨rfl, hU, ((hE.kept hS.2.1).narrow hB).warm hW, hN.warm hW⟩⟩
section CSW
variable {R : Room} {s : State} {args : Array Value}
theorem callSW_of {own : String} {index maxL mc ms : Nat} {y : MethodName} {bytes : ByteArray} {ret : Option FieldType} {hh : List (Nat × Nat × Nat × Nat)} {Ts ws ws' : List Cond} {rm : Room} (n : Nat) (ht : ∀ w ∈ Ts, w.before args s = true) (hG : GoodIn Ts ws) (hw : ws = Cond.codeWith y bytes maxL ret hh :: ws') (hrc : rm.cells = mc) (hrs : rm.slots = ms)
    (hini : (Cond.initialized y.cls).before args s = true) (hl : (Cond.methodLink own index y).before args s = true) (hst : (Cond.static y).before args s = true)
    (hd : y.cls ≠ "java/lang/invoke/MethodHandle" ∧ y.cls ≠ "java/lang/invoke/VarHandle" ∧ (parseMethodDescriptor y.desc).map (fun d => d.parameters.length) = some n) (hR : rm.frames + 1 ≤ R.frames ∧ 8 + (maxL + 11) + rm.locals ≤ R.locals) :
    vx_CSW R s args own index y bytes maxL ret hh ws rm mc ms n := by
  have hc : Cond.codeWith y bytes maxL ret hh ∈ ws := by rw [hw]; exact List.mem_cons_self
  refine ⟨⟨hrc, hrs, hR.1, hR.2, pay_in ht hG, hc⟩, ht _ (hG _ hc).1, hini, ⟨hd.1, hd.2.1⟩, fun sig h => ?_, hl, hst⟩
  have h2 := hd.2.2
  rw [h] at h2
  exact (Option.some.inj h2).symm
end CSW
section XWO
variable {D : va_G} {cA : Nat → ClassId} {ad : Nat → Nat → Nat} {g g' : Nat → Nat → Int32} {tt : Nat → Int64} {N : Nat → Nat} {H H1 : Heap} {A : Nat → Prop} {e0 : Nat}
theorem xW.out {o : Nat} {e : va_E} (h : xW D cA ad g tt N H) (hA : xA A e0 ad N) (ho : ¬ A o) (hU : xUp D o e H H1) : xW D cA ad g tt N H1 := h.keep fun c j hv => hU.2.2 _ (fun z => ho (z ▸ hA.a hv))
def gcut (g : Nat → Nat → Int32) (t : Nat) : Nat → Int32 := if t < 19 then g t else fun _ => 0
theorem xC_cut (c j : Nat) : xC cA ad g tt N c j = xC cA ad (gcut g) tt N c j := by
  rcases c with _|_|_|_|c
  · rcases j with _|_|_|_|_|_|_|_|_|_|j <;> rfl
  · rfl
  · rfl
  · rfl
  · rfl
/-- only the rows that the class has are looked at -/
theorem xW.gh (h : xW D cA ad g tt N H) (e : ∀ t, t < 19 → g' t = g t) : xW D cA ad g' tt N H := by
  have k : gcut g' = gcut g := by
    funext t
    unfold gcut
    by_cases ht : t < 19
    · rw [if_pos ht, if_pos ht, e t ht]
    · rw [if_neg ht, if_neg ht]
  intro c j hv
  rw [xC_cut, k, ← xC_cut]
  exact h c j hv
end XWO
/-- the class's cells, the model's -/
def cF (h0 o : Nat) (bm : Nat → Nat) : Nat → Prop := fun q => h0 ≤ q ∧ q ≠ o ∧ ∀ j, j < 14 → q ≠ bm j
def cM (bm : Nat → Nat) : Nat → Prop := fun q => ∃ j, j < 14 ∧ q = bm j
abbrev outW (D : va_G) (cA : Nat → ClassId) (o : Nat) (f : Nat → Int64) (H : Heap) : Prop := va_at D vwCl (o, .inl (cA 1, 1, .inr (.inl f))) H
def mixG (g1 g2 : Nat → Nat → Int32) (t : Nat) : Nat → Int32 := if t < 19 then g1 t else g2 t
theorem mix_lo {g1 g2 : Nat → Nat → Int32} {t : Nat} (h : t < 19) : mixG g1 g2 t = g1 t := if_pos h
theorem mix_hi {g1 g2 : Nat → Nat → Int32} {t : Nat} (h : 19 ≤ t) : mixG g1 g2 t = g2 t := if_neg (by omega)
/-- what holds between the calls: class, model, the row for answers -/
def LI (D : va_G) (cA : Nat → ClassId) (e0 h0 x0 o : Nat) (bm : Nat → Nat) (ad : Nat → Nat → Nat) (g : Nat → Nat → Int32) (tt : Nat → Int64) (N : Nat → Nat) (H : Heap) : Prop :=
  xW D cA ad g tt N H ∧ xA (cF h0 o bm) e0 ad N ∧ yW D cA bm g tt (N 0) (N 1) H ∧ slInv g (N 0) ∧ hwAll g (N 0) ∧ dfl g (N 0) ∧ (N 2 = 0 ∨ N 2 = 10) ∧ (∃ d0, d0 ≤ 999 ∧ g 13 0 = nI d0) ∧ plOK g (N 1) ∧ chS g (N 0) (N 1) ∧ (∃ f, outW D cA o f H) ∧ ad 0 0 = x0
theorem LI_mk {D : va_G} {cA : Nat → ClassId} {e0 h0 x0 o : Nat} {bm : Nat → Nat} {ad : Nat → Nat → Nat} {g1 g2 : Nat → Nat → Int32} {tt : Nat → Int64} {N : Nat → Nat} {n np : Nat} {H : Heap} (hX : xW D cA ad g1 tt N H) (hA : xA (cF h0 o bm) e0 ad N) (hY : yW D cA bm g2 tt n np H) (hn : N 0 = n) (hp : N 1 = np) (he : ∀ t, t < 10 ∨ t = 13 → g1 t = g2 t) (hs : slInv g1 (N 0)) (hw : hwAll g1 (N 0)) (hd : dfl g1 (N 0)) (hN : N 2 = 0 ∨ N 2 = 10) (hy : ∃ d0, d0 ≤ 999 ∧ g1 13 0 = nI d0) (hP : ∀ k, k < np → g2 21 (3 * k) = g1 10 k ∧ g2 21 (3 * k + 1) = g1 11 k ∧ g2 21 (3 * k + 2) = g1 12 k) (hC : chS g1 (N 0) (N 1)) (hO : ∃ f, outW D cA o f H) (hx : ad 0 0 = x0) : LI D cA e0 h0 x0 o bm ad (mixG g1 g2) tt N H := by
  subst hn hp
  refine ⟨hX.gh (fun t ht => mix_lo ht), hA, hY.gh (fun t ht => ?_), inv_c hs (mix_lo (by omega)) (mix_lo (by omega)) (mix_lo (by omega)), hwAll_c (mix_lo (by omega)) (mix_lo (by omega)) hw, fun k => ?_, hN, ?_, fun k hk => ?_, fun k hk => ?_, hO, hx⟩
  · rcases ht with ht | ht | ht
    · rw [mix_lo (by omega)]
      exact he t (Or.inl ht)
    · rw [mix_lo (by omega)]
      exact he t (Or.inr ht)
    · exact mix_hi (by omega)
  · have h := hd k
    rw [mix_lo (show 1 < 19 by omega), mix_lo (show 2 < 19 by omega), mix_lo (show 4 < 19 by omega), mix_lo (show 5 < 19 by omega), mix_lo (show 6 < 19 by omega), mix_lo (show 7 < 19 by omega), mix_lo (show 8 < 19 by omega), mix_lo (show 9 < 19 by omega)]
    exact h
  · rw [mix_lo (by omega)]
    exact hy
  · rw [mix_hi (show 19 ≤ 21 by omega), mix_lo (show 10 < 19 by omega), mix_lo (show 11 < 19 by omega), mix_lo (show 12 < 19 by omega)]
    exact hP k hk
  · rw [mix_lo (by omega)]
    exact hC k hk
