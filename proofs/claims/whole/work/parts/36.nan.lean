/-! A FP.Core.quotient of whole numbers is a number. -/
section NN
theorem nn_toNat {d : FP.Core.Datum} (hd : FP.Core.fits FP.Core.b64 d) : (UInt64.ofNat (FP.Core.encode FP.Core.b64 d)).toNat = FP.Core.encode FP.Core.b64 d := by
  have h := FP.Core.encode_lt FP.Core.good_b64 d hd
  have e : 2 * FP.Core.b64.exps * FP.Core.b64.tails = 2 ^ 64 := by decide
  rw [e] at h
  exact UInt64.toNat_ofNat_of_lt' h
theorem nn_i2d (a : Int32) : ∃ s c q, FP.Core.decode FP.Core.b64 (FP.i2d a).toNat = .fin s c q ∧ (a ≠ 0 → c ≠ 0) := by
  have hlt : a.toInt.natAbs < 2 ^ FP.Core.b64.p := by
    have h1 := a.toInt_lt
    have h2 := a.le_toInt
    show a.toInt.natAbs < 2 ^ 53
    omega
  obtain ⟨c', q', h1, h2⟩ := FP.Core.round_exact FP.Core.good_b64 (decide (a.toInt < 0)) (c := a.toInt.natAbs) (q := 0) hlt (by decide) (by decide)
  refine ⟨decide (a.toInt < 0), c', q', ?_, fun ha hc => ?_⟩
  · show FP.Core.decode FP.Core.b64 (UInt64.ofNat (FP.Core.encode FP.Core.b64 (FP.Core.round FP.Core.b64 (.fin (decide (a.toInt < 0)) a.toInt.natAbs 0)))).toNat = _
    rw [nn_toNat (FP.Core.round_fits FP.Core.good_b64 _), FP.Core.decode_encode FP.Core.good_b64 _ (FP.Core.round_fits FP.Core.good_b64 _), h1]
  · rw [hc] at h2
    unfold FP.Core.inUnits at h2
    rw [Nat.zero_mul] at h2
    rcases Nat.mul_eq_zero.mp h2.symm with z | z
    · have z1 : a.toInt = 0 := Int.natAbs_eq_zero.mp z
      exact ha ((i_eq a 0).mpr z1)
    · have := Nat.two_pow_pos (0 - FP.Core.b64.qmin).toNat
      omega
theorem nn_of {r : UInt64} (h : FP.Core.decode FP.Core.b64 r.toNat ≠ .nan) : vf_n64 r := by
  rw [Ne, FP.Core.decode_nan, FP.Core.mag_toNat64] at h
  unfold vf_n64
  rw [UInt64.le_iff_toNat_le, UInt64.toNat_and]
  have e1 : (0x7fffffffffffffff : UInt64).toNat = 2 ^ 63 - 1 := by decide
  have e2 : (0x7ff0000000000000 : UInt64).toNat = FP.Core.infBits FP.Core.b64 := by decide
  rw [e1, e2, Nat.and_two_pow_sub_one_eq_mod]
  omega
theorem nn_div (a b : Int32) (hb : b ≠ 0) : vf_n64 (FP.ddiv (FP.i2d a) (FP.i2d b)) := by
  obtain ⟨s, c, q, h1, -⟩ := nn_i2d a
  obtain ⟨t, d, r, h2, h3⟩ := nn_i2d b
  have hd := h3 hb
  have hq : FP.Core.quotient FP.Core.b64 (FP.Core.decode FP.Core.b64 (FP.i2d a).toNat) (FP.Core.decode FP.Core.b64 (FP.i2d b).toNat) = FP.Core.roundRatio FP.Core.b64 (s != t) c d (q - r) := by
    rw [h1, h2]
    exact if_neg hd
  have hf : FP.Core.fits FP.Core.b64 (FP.Core.roundRatio FP.Core.b64 (s != t) c d (q - r)) := FP.Core.roundRatio_fits FP.Core.good_b64 _ _ (Nat.pos_of_ne_zero hd) _
  refine nn_of ?_
  show FP.Core.decode FP.Core.b64 (UInt64.ofNat (FP.Core.encode FP.Core.b64 (FP.Core.quotient FP.Core.b64 (FP.Core.decode FP.Core.b64 (FP.i2d a).toNat) (FP.Core.decode FP.Core.b64 (FP.i2d b).toNat)))).toNat ≠ .nan
  rw [hq, nn_toNat hf, FP.Core.decode_encode FP.Core.good_b64 _ hf]
  exact FP.Core.roundRatio_ne_nan _ _ _ _ _
end NN
