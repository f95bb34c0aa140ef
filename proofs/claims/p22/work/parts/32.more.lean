/-! A planned change more, a machine more: the world grown. -/
section MW
variable {D : va_G} {cA : Nat → ClassId} {ad : Nat → Nat → Nat} {g : Nat → Nat → Int32} {tt : Nat → Int64} {N : Nat → Nat} {H H1 : Heap} {A : Nat → Prop} {e0 : Nat}
/-- the numbers with one planned change more -/
def plG (g : Nat → Nat → Int32) (n : Nat) (d s p : Int32) : Nat → Nat → Int32 := va_up (va_up (va_up (va_up g 10 (upd (g 10) n d)) 11 (upd (g 11) n s)) 12 (upd (g 12) n p)) 18 (upd (g 18) 1 (g 18 1 + nI 1))
theorem plG_10 (g : Nat → Nat → Int32) (n : Nat) (d s p : Int32) : plG g n d s p 10 = upd (g 10) n d := by unfold plG; rw [up_ne (by omega), up_ne (by omega), up_ne (by omega), up_eq]
theorem plG_11 (g : Nat → Nat → Int32) (n : Nat) (d s p : Int32) : plG g n d s p 11 = upd (g 11) n s := by unfold plG; rw [up_ne (by omega), up_ne (by omega), up_eq]
theorem plG_12 (g : Nat → Nat → Int32) (n : Nat) (d s p : Int32) : plG g n d s p 12 = upd (g 12) n p := by unfold plG; rw [up_ne (by omega), up_eq]
theorem plG_18 (g : Nat → Nat → Int32) (n : Nat) (d s p : Int32) : plG g n d s p 18 = upd (g 18) 1 (g 18 1 + nI 1) := by unfold plG; rw [up_eq]
theorem plG_t (g : Nat → Nat → Int32) (n : Nat) (d s p : Int32) {t : Nat} (h1 : t ≠ 10) (h2 : t ≠ 11) (h3 : t ≠ 12) (h4 : t ≠ 18) : plG g n d s p t = g t := by unfold plG; rw [up_ne h4, up_ne h3, up_ne h2, up_ne h1]
def plA (ad : Nat → Nat → Nat) (n q d2 : Nat) : Nat → Nat → Nat := va_up (va_up ad 4 (va_up (ad 4) n q)) 0 (va_up (ad 0) 10 d2)
def plN' (N : Nat → Nat) (k : Nat) : Nat → Nat := va_up (va_up N 1 (N 1 + 1)) 3 k
theorem xV_pl {k c j : Nat} (hk : 0 < k) (h : xV (plN' N k) c j) : xV N c j ∨ (c = 4 ∧ j = N 1) ∨ (c = 0 ∧ j = 10) := by
  unfold xV plN' at h
  rw [up_ne (show 2 ≠ 3 by omega), up_ne (show 2 ≠ 1 by omega), up_eq, up_ne (show 0 ≠ 3 by omega), up_ne (show 0 ≠ 1 by omega), up_ne (show 1 ≠ 3 by omega), up_eq] at h
  unfold xV
  omega
theorem xA.pl {q d2 k : Nat} (h : xA A e0 ad N) (hX : xW D cA ad g tt N H) (hq : H.size ≤ q) (hAq : A q) (hAd : A d2) (hd : d2 ≠ q) (hdo : (0 < N 3 ∧ d2 = ad 0 10) ∨ H.size ≤ d2) (hn : N 1 < 20) (hk : N 1 < k) (hk2 : k = 10 ∨ k = 15 ∨ k = 22) : xA A e0 (plA ad (N 1) q d2) (plN' N k) := by
  obtain ⟨h1, h2, h3, h4, h5, h6, h7, h8, h9, h10⟩ := h
  have key : ∀ c j, xV (plN' N k) c j → (c = 4 ∧ j = N 1 ∧ plA ad (N 1) q d2 c j = q) ∨ (c = 0 ∧ j = 10 ∧ plA ad (N 1) q d2 c j = d2) ∨ (xV N c j ∧ ¬ (c = 0 ∧ j = 10) ∧ ¬ (c = 4 ∧ j = N 1) ∧ plA ad (N 1) q d2 c j = ad c j) := by
    intro c j hv
    unfold plA
    by_cases a1 : c = 4 ∧ j = N 1
    · obtain ⟨rfl, rfl⟩ := a1
      refine Or.inl ⟨rfl, rfl, ?_⟩
      rw [up_ne (by omega), up_eq, up_eq]
    · by_cases a2 : c = 0 ∧ j = 10
      · obtain ⟨rfl, rfl⟩ := a2
        refine Or.inr (Or.inl ⟨rfl, rfl, ?_⟩)
        rw [up_eq, up_eq]
      · refine Or.inr (Or.inr ⟨?_, a2, a1, ?_⟩)
        · rcases xV_pl (by omega) hv with z | z | z
          · exact z
          · exact absurd z a1
          · exact absurd z a2
        · by_cases b : c = 0
          · subst b
            rw [up_eq, up_ne (fun z => a2 ⟨rfl, z⟩)]
          · rw [up_ne b]
            by_cases b4 : c = 4
            · subst b4
              rw [up_eq, up_ne (fun z => a1 ⟨rfl, z⟩)]
            · rw [up_ne b4]
  have old : ∀ c j, xV N c j → ¬ (c = 0 ∧ j = 10) → ad c j ≠ q ∧ ad c j ≠ d2 := by
    intro c j hv hn2
    have hl := hX.lt hv
    refine ⟨by omega, fun z => ?_⟩
    rcases hdo with ⟨z1, z2⟩ | z1
    · exact hn2 (h1 c j 0 10 hv (xV10 z1) (z.trans z2))
    · omega
  refine ⟨fun c j c' j' hv hv' he => ?_, fun c j hv => ?_, ?_, fun z => ?_, ?_, ?_, ?_, ?_, ?_, ?_⟩
  · rcases key c j hv with ⟨a, b, e⟩ | ⟨a, b, e⟩ | ⟨a, b, b2, e⟩ <;> rcases key c' j' hv' with ⟨a', b', e'⟩ | ⟨a', b', e'⟩ | ⟨a', b', b2', e'⟩ <;> rw [e, e'] at he
    · exact ⟨a.trans a'.symm, b.trans b'.symm⟩
    · exact absurd he.symm hd
    · exact absurd he.symm (old c' j' a' b').1
    · exact absurd he hd
    · exact ⟨a.trans a'.symm, b.trans b'.symm⟩
    · exact absurd he.symm (old c' j' a' b').2
    · exact absurd he (old c j a b).1
    · exact absurd he (old c j a b).2
    · exact h1 c j c' j' a a' he
  · rcases key c j hv with ⟨-, -, e⟩ | ⟨-, -, e⟩ | ⟨a, -, -, e⟩
    · rw [e]; exact hAq
    · rw [e]; exact hAd
    · rw [e]; exact h2 c j a
  · unfold plN' plA
    rw [up_ne (by omega), up_ne (by omega), up_eq, up_ne (by omega)]
    exact h3
  · unfold plN' at z
    rw [up_eq] at z
    omega
  · unfold plN'; rw [up_ne (by omega), up_ne (by omega)]; exact h5
  · unfold plN'; rw [up_ne (by omega), up_ne (by omega), up_ne (by omega), up_ne (by omega)]; exact h6
  · unfold plN'; rw [up_ne (by omega), up_ne (by omega)]; exact h7
  · unfold plN'; rw [up_ne (by omega), up_eq]; omega
  · unfold plN'; rw [up_ne (by omega), up_eq, up_eq]; omega
  · unfold plN'; rw [up_eq]; omega
theorem xW.pl {q d2 k s0 : Nat} {d p : Int32} {f2 : Nat → Option Nat} (h : xW D cA ad g tt N H) (hA : xA A e0 ad N) (hk : 0 < k) (hs : s0 < 6 * N 0) (hs2 : 6 * N 0 ≤ 48)
    (hL : va_at D vwCl (ad 0 2, .inr (0, [.int (g 18 1 + nI 1), .ref d2, .int (nI (N 1 + 1))])) H1) (hQ : va_at D vwCl (q, .inr (2, [.ref (ad 3 s0), .int d, .int p])) H1)
    (hF : va_at D vwCl (d2, .inl (cA 2, k, .inr (.inr (.inr (.inr f2))))) H1) (hf2 : f2 = fun j => if j < N 1 + 1 then some (va_up (ad 4) (N 1) q j) else none)
    (ho : ∀ c j, xV N c j → ¬ (c = 0 ∧ j = 2) → ¬ (c = 0 ∧ j = 10) → H1[ad c j]? = H[ad c j]?) : xW D cA (plA ad (N 1) q d2) (plG g (N 1) d (nI s0) p) tt (plN' N k) H1 := by
  have keep : ∀ c j, xV N c j → ¬ (c = 0 ∧ j = 2) → ¬ (c = 0 ∧ j = 10) → va_at D vwCl (ad c j, xC cA ad g tt N c j) H1 := fun c j hv n1 n2 => (h c j hv).kept (ho c j hv n1 n2)
  have a3 : plA ad (N 1) q d2 3 = ad 3 := by unfold plA; rw [up_ne (by omega), up_ne (by omega)]
  have a4 : plA ad (N 1) q d2 4 = va_up (ad 4) (N 1) q := by unfold plA; rw [up_ne (by omega), up_eq]
  have a0 : plA ad (N 1) q d2 0 = va_up (ad 0) 10 d2 := by unfold plA; rw [up_eq]
  have an : ∀ c, c ≠ 0 → c ≠ 4 → plA ad (N 1) q d2 c = ad c := fun c z0 z4 => by unfold plA; rw [up_ne z0, up_ne z4]
  have m0 : plN' N k 0 = N 0 := by unfold plN'; rw [up_ne (by omega), up_ne (by omega)]
  have m1 : plN' N k 1 = N 1 + 1 := by unfold plN'; rw [up_ne (by omega), up_eq]
  have m2 : plN' N k 2 = N 2 := by unfold plN'; rw [up_ne (by omega), up_ne (by omega)]
  have m3 : plN' N k 3 = k := by unfold plN'; rw [up_eq]
  intro c j hv
  by_cases c4 : c = 4
  · subst c4
    have hj : j < N 1 + 1 := by
      unfold xV at hv
      rw [m1] at hv
      omega
    have e : xC cA (plA ad (N 1) q d2) (plG g (N 1) d (nI s0) p) tt (plN' N k) 4 j = .inr (2, [.ref (ad 3 (upd (g 11) (N 1) (nI s0) j).toNatClampNeg), .int (upd (g 10) (N 1) d j), .int (upd (g 12) (N 1) p j)]) := by
      simp only [xC]
      rw [a3, plG_10, plG_11, plG_12]
    rw [e, a4]
    by_cases hjn : j = N 1
    · subst hjn
      rw [up_eq, upd_eq, upd_eq, upd_eq, nI_clamp (by omega)]
      exact hQ
    · rw [up_ne hjn, upd_ne hjn, upd_ne hjn, upd_ne hjn]
      exact keep 4 j (xV4 (by omega)) (by omega) (by omega)
  · by_cases c0 : c = 0
    · subst c0
      by_cases j10 : j = 10
      · subst j10
        have e : xC cA (plA ad (N 1) q d2) (plG g (N 1) d (nI s0) p) tt (plN' N k) 0 10 = .inl (cA 2, k, .inr (.inr (.inr (.inr f2)))) := by
          simp only [xC]
          rw [m3, m1, a4, hf2]
        rw [e, a0, up_eq]
        exact hF
      · have hv' : xV N 0 j := by
          rcases xV_pl hk hv with z | z | z
          · exact z
          · exact absurd z.1 (by omega)
          · exact absurd z.2 j10
        by_cases j2 : j = 2
        · subst j2
          have e : xC cA (plA ad (N 1) q d2) (plG g (N 1) d (nI s0) p) tt (plN' N k) 0 2 = .inr (0, [.int (g 18 1 + nI 1), .ref d2, .int (nI (N 1 + 1))]) := by
            simp only [xC]
            rw [m1, a0, up_eq, plG_18, upd_eq]
          rw [e, a0, up_ne (by omega)]
          exact hL
        · have e : xC cA (plA ad (N 1) q d2) (plG g (N 1) d (nI s0) p) tt (plN' N k) 0 j = xC cA ad g tt N 0 j := by
            rw [xC_gg (g := g) 0 j (by omega) (fun t ht => plG_t g (N 1) d (nI s0) p (by omega) (by omega) (by omega) (by omega)) (by rw [plG_18, upd_ne (by omega)]) (fun z => j2 z.2)]
            have hj : j < 10 := by
              unfold xV at hv'
              omega
            rcases (show j = 0 ∨ j = 1 ∨ j = 3 ∨ j = 4 ∨ j = 5 ∨ j = 6 ∨ j = 7 ∨ j = 8 ∨ j = 9 by omega) with rfl | rfl | rfl | rfl | rfl | rfl | rfl | rfl | rfl
            · simp only [xC]
              rw [a0, up_ne (by omega), up_ne (by omega), up_ne (by omega), up_ne (by omega), up_ne (by omega), up_ne (by omega)]
            · simp only [xC]
              rw [a0, up_ne (by omega), m0]
            · simp only [xC]
              rw [a0, up_ne (by omega), up_ne (by omega)]
            · rfl
            · rfl
            · rfl
            · rfl
            · rfl
            · simp only [xC]
              rw [m2, m0, an 1 (by omega) (by omega)]
          rw [e, a0, up_ne j10]
          exact keep 0 j hv' (fun z => j2 z.2) (fun z => j10 z.2)
    · have hv' : xV N c j := by
        rcases xV_pl hk hv with z | z | z
        · exact z
        · exact absurd z.1 c4
        · exact absurd z.1 c0
      have hc : c = 1 ∨ c = 2 ∨ c = 3 := by
        unfold xV at hv'
        omega
      have e : xC cA (plA ad (N 1) q d2) (plG g (N 1) d (nI s0) p) tt (plN' N k) c j = xC cA ad g tt N c j := by
        rw [xC_gg (g := g) c j (by omega) (fun t ht => plG_t g (N 1) d (nI s0) p (by omega) (by omega) (by omega) (by omega)) (by rw [plG_18, upd_ne (by omega)]) (fun z => c0 z.1)]
        rcases hc with rfl | rfl | rfl
        · simp only [xC]
          rw [an 2 (by omega) (by omega)]
        · simp only [xC]
          rw [a3]
        · rfl
      rw [e, an c c0 c4]
      exact keep c j hv' (fun z => c0 z.1) (fun z => c0 z.1)
end MW
