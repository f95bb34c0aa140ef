/-! The model: the checksum (by p56.py) -/
theorem dW_c {g g1 : Nat → Nat → Int32} (h : ∀ t, t < 14 → g1 t = g t) (d : Int64) : ∀ k, dW g1 d k = dW g d k
  | 0 => rfl
  | k + 1 => by
    show mixF (dW g1 d k) (fun j => (wy g1 ((j + 8) % 9) k).toInt64) (k + 1) = mixF (dW g d k) (fun j => (wy g ((j + 8) % 9) k).toInt64) (k + 1)
    rw [dW_c h d k, wy_c (h 3 (by omega))]
theorem mixF_c {f f' : Nat → Int64} (d : Int64) {m : Nat} (h : ∀ j, j < m → f' j = f j) : ∀ k, k ≤ m → mixF d f' k = mixF d f k := by
  intro k
  induction k with
  | zero => exact fun _ => rfl
  | succ k ih =>
    intro hk
    show mixF d f' k * 31 + f' k = mixF d f k * 31 + f k
    rw [ih (by omega), h k (by omega)]
theorem mixS_c {g g1 : Nat → Nat → Int32} (h : ∀ t, t < 14 → g1 t = g t) (i : Nat) (d : Int64) (k : Nat) : mixS g1 i d k = mixS g i d k := by
  induction k with
  | zero => rfl
  | succ k ih =>
    show mixF (mixS g1 i d k) (fun w => (g1 (4 + w) (6 * i + k)).toInt64) 6 = mixF (mixS g i d k) (fun w => (g (4 + w) (6 * i + k)).toInt64) 6
    rw [ih]
    exact mixF_c (f := fun w => (g (4 + w) (6 * i + k)).toInt64) (f' := fun w => (g1 (4 + w) (6 * i + k)).toInt64) _ (m := 6) (fun w hw => by rw [h (4 + w) (by omega)]) 6 (Nat.le_refl 6)
theorem dM_c {g g1 : Nat → Nat → Int32} (h : ∀ t, t < 14 → g1 t = g t) (d : Int64) : ∀ k, dM g1 d k = dM g d k
  | 0 => rfl
  | k + 1 => by
    show mixS g1 k (mixF (dM g1 d k) (fun w => (machF g1 k w).toInt64) 5) 6 = mixS g k (mixF (dM g d k) (fun w => (machF g k w).toInt64) 5) 6
    rw [dM_c h d k, show (fun w => (machF g1 k w).toInt64) = fun w => (machF g k w).toInt64 from funext fun w => by rw [machF_c (fun t ht => h t (by omega)) k w], mixS_c h k _ 6]
theorem digF_c {g g1 : Nat → Nat → Int32} (h : ∀ t, t < 14 → g1 t = g t) (tt : Nat → Int64) (n np : Nat) : digF g1 tt n np = digF g tt n np := by
  unfold digF
  rw [h 13 (by omega), dW_c h _ n, dM_c h _ n]
theorem dig_211 : (211 * 31 : Int64) = 6541 := by decide
set_option maxHeartbeats 4000000 in
set_option maxRecDepth 100000 in
/-- model.digest -/
theorem c_X5_digest (l : Launch) (D : va_G) (cA : Nat → ClassId) (e0 : Nat) (A : Nat → Prop) (H0 : Heap) (b : Nat → Nat) (g : Nat → Nat → Int32) (tt : Nat → Int64) (n np : Nat) (hX : yW D cA b g tt n np H0) (hA : yA A b n np) : Met l yX5_digest w_X5_digest ({ frames := 2, cells := 0, slots := 0, locals := 45 } : Room) (xPc D cA e0 A H0 [.ref (b 0)]) (xQl (fun r h => r = digF g tt n np ∧ yW D cA b (thG g 0) tt n np h) A) 0 0 (A) := by
  refine Met.ofW (cc := cX5_digest) (maxL := 8) (ret := (some .long)) (by decide) rfl ?_
  intro p e s m args below meth c s₁ B hml hv
  obtain ⟨rfl, hH, hE⟩ := hv
  subst hH
  have hx := B.exec
  have hb := B.bytes
  have hr := B.returns
  have hts := hE.1.all ([.ref (b 0)] : List Value).toArray
  have hown : s.vm.findClass RX5 = some m.cls := findClass_of_methodNamed B.named
  have hlocks := B.notSynchronized
  have hK := hE.2.1
  have hS : va_S A s.heap s.heap [] := va_S.rf
  have hl := lv_entry ([.ref (b 0)]) (n := 8) (Nat.le_of_ble_eq_true rfl)
  rw [lg_entry_eq]
  generalize (lg_sl ([.ref (b 0)]) ++ List.replicate (8 - (lg_sl ([.ref (b 0)])).length) Slot.unset).toArray = ls at hl ⊢
  have hl : lv_has ls 8 [(0, .ref (b 0))] := hl
  have hn8 := hA.2.2.1
  have hnp := hA.2.2.2
  refine lv_aload_n hx hb dX5_digest_0 rfl (lv_at hl 0 rfl) ?_
  refine lv_iconst (v := nI 0) hx hb dX5_digest_1 (by decide) ?_
  refine xput (D := D) (ci := 6) (v := .int (nI 0)) (C := RX5) (T := TX5) (N := 17) hx hb hts qi_X5 tyX5 tyX5_ok nmX5 hown hK hS (hX.main) (hA.a (show 0 < 14 by omega)) rfl 0 (by decide) (hts _ q_fl_X5_50) (fun _ h9 => h9) rfl (tyX5_ok 0 (by decide)) rfl rfl (Nat.le_of_ble_eq_true rfl) dX5_digest_2 (fun H1 locs hU hS => ?_)
  obtain ⟨g1, hg1⟩ : ∃ z, z = thG g 0 := ⟨_, rfl⟩
  have hX1 : yW D cA b g1 tt n np H1 := by rw [hg1]; exact hX.pthr hA hU
  refine lv_ldc2 (v := 6541) hx hb hown (hts _ q_ko_X5_132) dX5_digest_5 ?_
  refine lv_aload_n hx hb dX5_digest_8 rfl (lv_at hl 0 rfl) ?_
  refine va_get (D := D) (ci := 6) (v := .int (g1 13 0)) (C := RX5) (T := TX5) (N := 17) hx hb hts qi_X5 hown hK (xP1 (hX1.main)) 0 rfl rfl 1 (by decide) (hts _ q_fl_X5_83) (fun _ h9 => h9) rfl dX5_digest_9 ?_
  refine lv_i2l (v := (g1 13 0).toInt64) hx hb dX5_digest_12 rfl ?_
  refine lv_ladd hx hb dX5_digest_13 ?_
  refine lv_ldc2 (v := 31) hx hb hown (hts _ q_ko_X5_134) dX5_digest_14 ?_
  refine lv_lmul hx hb dX5_digest_17 ?_
  refine lv_aload_n hx hb dX5_digest_18 rfl (lv_at hl 0 rfl) ?_
  refine va_get (D := D) (ci := 6) (v := .int (nI (n))) (C := RX5) (T := TX5) (N := 17) hx hb hts qi_X5 hown hK (xP1 (hX1.main)) 0 rfl rfl 2 (by decide) (hts _ q_fl_X5_54) (fun _ h9 => h9) rfl dX5_digest_19 ?_
  refine lv_i2l (v := (nI (n)).toInt64) hx hb dX5_digest_22 rfl ?_
  refine lv_ladd hx hb dX5_digest_23 ?_
  refine lv_lstore_n (lv' := [(1, .long (((6541 + ((g1 13 0).toInt64)) * 31) + ((nI (n)).toInt64))), (0, .ref (b 0))]) hx hb dX5_digest_24 rfl hl (by decide) rfl (fun ls hl => ?_)
  refine lv_iconst (v := nI 0) hx hb dX5_digest_25 (by decide) ?_
  refine lv_istore_n (lv' := [(3, .int (nI 0)), (1, .long (((6541 + ((g1 13 0).toInt64)) * 31) + ((nI (n)).toInt64))), (0, .ref (b 0))]) hx hb dX5_digest_26 rfl hl (by decide) rfl (fun ls hl => ?_)
  have LOOP27 : ∀ (n27 : Nat) (k : Nat) (d1 : Int64) (ls : Array Slot), (k ≤ n) → (d1 = dW g1 ((6541 + (g1 13 0).toInt64) * 31 + (nI n).toInt64) k) → (n - k) < n27 → lv_has ls 8 [(3, .int (nI (k))), (1, .long (d1)), (0, .ref (b 0))] → W p l e (headSpec w_X5_digest ({ frames := 2, cells := 0, slots := 0, locals := 45 } : Room)).room s m ([.ref (b 0)] : List Value).toArray below meth c H1 locs 0 0 (MQ below (xQl (fun r h => r = digF g tt n np ∧ yW D cA b (thG g 0) tt n np h) A) ([.ref (b 0)] : List Value).toArray s 0 0 (A)) (F0 m 27 ls []) := by
    intro n27
    induction n27 with
    | zero => intro k d1 ls hk hd1 hmeas hl; exact absurd hmeas (Nat.not_lt_zero _)
    | succ n27 ih27 =>
      intro k d1 ls hk hd1 hmeas hl
      refine lv_iload_n hx hb dX5_digest_27 rfl (lv_at hl 0 rfl) ?_
      refine lv_aload_n hx hb dX5_digest_28 rfl (lv_at hl 2 rfl) ?_
      refine va_get (D := D) (ci := 6) (v := .int (nI (n))) (C := RX5) (T := TX5) (N := 17) hx hb hts qi_X5 hown hK (xP1 (hX1.main)) 0 rfl rfl 2 (by decide) (hts _ q_fl_X5_54) (fun _ h9 => h9) rfl dX5_digest_29 ?_
      refine lv_icmp_ge (tgt := 86) hx hb dX5_digest_32 (by decide) (fun c32 => ?_) (fun c32 => ?_)
      · have c32 : n ≤ k := (nI_leI (a := n) (b := k) (by omega) (by omega)).mp c32
        refine lv_iconst (v := nI 0) hx hb dX5_digest_86 (by decide) ?_
        refine lv_istore_n (lv' := [(3, .int (nI 0)), (1, .long (d1)), (0, .ref (b 0))]) hx hb dX5_digest_87 rfl hl (by decide) rfl (fun ls hl => ?_)
        have LOOP88 : ∀ (n88 : Nat) (k : Nat) (d3 : Int64) (ls : Array Slot), (k ≤ n) → (d3 = (dM g1 (dW g1 ((6541 + (g1 13 0).toInt64) * 31 + (nI n).toInt64) n) k)) → (n - k) < n88 → lv_has ls 8 [(3, .int (nI (k))), (1, .long (d3)), (0, .ref (b 0))] → W p l e (headSpec w_X5_digest ({ frames := 2, cells := 0, slots := 0, locals := 45 } : Room)).room s m ([.ref (b 0)] : List Value).toArray below meth c H1 locs 0 0 (MQ below (xQl (fun r h => r = digF g tt n np ∧ yW D cA b (thG g 0) tt n np h) A) ([.ref (b 0)] : List Value).toArray s 0 0 (A)) (F0 m 88 ls []) := by
          intro n88
          induction n88 with
          | zero => intro k d3 ls hk hd3 hmeas hl; exact absurd hmeas (Nat.not_lt_zero _)
          | succ n88 ih88 =>
            intro k d3 ls hk hd3 hmeas hl
            refine lv_iload_n hx hb dX5_digest_88 rfl (lv_at hl 0 rfl) ?_
            refine lv_aload_n hx hb dX5_digest_89 rfl (lv_at hl 2 rfl) ?_
            refine va_get (D := D) (ci := 6) (v := .int (nI (n))) (C := RX5) (T := TX5) (N := 17) hx hb hts qi_X5 hown hK (xP1 (hX1.main)) 0 rfl rfl 2 (by decide) (hts _ q_fl_X5_54) (fun _ h9 => h9) rfl dX5_digest_90 ?_
            refine lv_icmp_ge (tgt := 187) hx hb dX5_digest_93 (by decide) (fun c93 => ?_) (fun c93 => ?_)
            · have c93 : n ≤ k := (nI_leI (a := n) (b := k) (by omega) (by omega)).mp c93
              refine lv_lload_n hx hb dX5_digest_187 rfl (lv_at hl 1 rfl) ?_
              refine lv_ldc2 (v := 31) hx hb hown (hts _ q_ko_X5_134) dX5_digest_188 ?_
              refine lv_lmul hx hb dX5_digest_191 ?_
              refine lv_aload_n hx hb dX5_digest_192 rfl (lv_at hl 2 rfl) ?_
              refine va_get (D := D) (ci := 6) (v := .int (nI (np))) (C := RX5) (T := TX5) (N := 17) hx hb hts qi_X5 hown hK (xP1 (hX1.main)) 0 rfl rfl 13 (by decide) (hts _ q_fl_X5_86) (fun _ h9 => h9) rfl dX5_digest_193 ?_
              refine lv_i2l (v := (nI (np)).toInt64) hx hb dX5_digest_196 rfl ?_
              refine lv_ladd hx hb dX5_digest_197 ?_
              refine lv_lstore_n (lv' := [(1, .long ((d3 * 31) + ((nI (np)).toInt64))), (3, .int (nI (k))), (0, .ref (b 0))]) hx hb dX5_digest_198 rfl hl (by decide) rfl (fun ls hl => ?_)
              refine lv_aload_n hx hb dX5_digest_199 rfl (lv_at hl 2 rfl) ?_
              refine va_get (D := D) (ci := 6) (v := .ref (b 12)) (C := RX5) (T := TX5) (N := 17) hx hb hts qi_X5 hown hK (xP1 (hX1.main)) 0 rfl rfl 15 (by decide) (hts _ q_fl_X5_43) (fun _ h9 => h9) rfl dX5_digest_200 ?_
              refine lv_astore_n (lv' := [(3, .ref (b 12)), (1, .long ((d3 * 31) + ((nI (np)).toInt64))), (0, .ref (b 0))]) hx hb dX5_digest_203 rfl hl (by decide) rfl (fun ls hl => ?_)
              refine lv_aload_n hx hb dX5_digest_204 rfl (lv_at hl 0 rfl) ?_
              refine va_alen hx hb hK (xP1 (hX1.tot)) 0 1 rfl rfl (v := nI (4)) rfl dX5_digest_205 ?_
              refine lv_istore (lv' := [(4, .int (nI (4))), (3, .ref (b 12)), (1, .long ((d3 * 31) + ((nI (np)).toInt64))), (0, .ref (b 0))]) hx hb dX5_digest_206 hl (by decide) rfl (fun ls hl => ?_)
              refine lv_iconst (v := nI 0) hx hb dX5_digest_208 (by decide) ?_
              refine lv_istore (lv' := [(5, .int (nI 0)), (4, .int (nI (4))), (3, .ref (b 12)), (1, .long ((d3 * 31) + ((nI (np)).toInt64))), (0, .ref (b 0))]) hx hb dX5_digest_209 hl (by decide) rfl (fun ls hl => ?_)
              have LOOP211 : ∀ (n211 : Nat) (j : Nat) (d7 : Int64) (ls : Array Slot), (j ≤ 4) → (d7 = mixF ((dM g1 (dW g1 ((6541 + (g1 13 0).toInt64) * 31 + (nI n).toInt64) n) n) * 31 + (nI np).toInt64) tt j) → (4 - j) < n211 → lv_has ls 8 [(5, .int (nI (j))), (4, .int (nI (4))), (3, .ref (b 12)), (1, .long (d7)), (0, .ref (b 0))] → W p l e (headSpec w_X5_digest ({ frames := 2, cells := 0, slots := 0, locals := 45 } : Room)).room s m ([.ref (b 0)] : List Value).toArray below meth c H1 locs 0 0 (MQ below (xQl (fun r h => r = digF g tt n np ∧ yW D cA b (thG g 0) tt n np h) A) ([.ref (b 0)] : List Value).toArray s 0 0 (A)) (F0 m 211 ls []) := by
                intro n211
                induction n211 with
                | zero => intro j d7 ls hj hd7 hmeas hl; exact absurd hmeas (Nat.not_lt_zero _)
                | succ n211 ih211 =>
                  intro j d7 ls hj hd7 hmeas hl
                  refine lv_iload hx hb dX5_digest_211 (lv_at hl 0 rfl) ?_
                  refine lv_iload hx hb dX5_digest_213 (lv_at hl 1 rfl) ?_
                  refine lv_icmp_ge (tgt := 239) hx hb dX5_digest_215 (by decide) (fun c215 => ?_) (fun c215 => ?_)
                  · have c215 : 4 ≤ j := (nI_leI (a := 4) (b := j) (by omega) (by omega)).mp c215
                    have hj4 : j = 4 := by omega
                    refine lv_lload_n hx hb dX5_digest_239 rfl (lv_at hl 3 rfl) ?_
                    have hpost : (fun r h => r = digF g tt n np ∧ yW D cA b (thG g 0) tt n np h) (d7) H1 := by
                      rw [← hg1]
                      refine ⟨?_, hX1⟩
                      rw [← digF_c (g1 := g1) (fun t ht => by rw [hg1, thG_t g 0 (by omega)]) tt n np, hd7, hj4]
                      unfold digF
                      rw [dig_211]
                      rfl
                    refine W.widen (k := 0) (n := 0) (by omega) (by omega) ?_
                    exact W.lret (v := d7) hx hb hr (fun t ht _ => ⟨⟨d7, H1, rfl, hpost, ht⟩, hS.F ht⟩) hS.2.2 dX5_digest_240
                  · have c215 : ¬ (4 ≤ j) := fun z => c215 ((nI_leI (a := 4) (b := j) (by omega) (by omega)).mpr z)
                    refine lv_aload_n hx hb dX5_digest_218 rfl (lv_at hl 2 rfl) ?_
                    refine lv_iload hx hb dX5_digest_219 (lv_at hl 0 rfl) ?_
                    refine va_lald hx hb hK (xP1 (hX1.tot)) 0 1 rfl rfl (i := nI (j)) (vp_in_nI (n := j) (by omega) (by omega)) dX5_digest_221 ?_
                    refine xtopL (show ((fun z => tt (z)) (nI (j)).toNatClampNeg) = tt (j) from by rw [nI_clamp (n := j) (by omega)]) ?_
                    refine lv_lstore (lv' := [(6, .long (tt (j))), (5, .int (nI (j))), (4, .int (nI (4))), (3, .ref (b 12)), (1, .long (d7)), (0, .ref (b 0))]) hx hb dX5_digest_222 hl (by decide) rfl (fun ls hl => ?_)
                    refine lv_lload_n hx hb dX5_digest_224 rfl (lv_at hl 4 rfl) ?_
                    refine lv_ldc2 (v := 31) hx hb hown (hts _ q_ko_X5_134) dX5_digest_225 ?_
                    refine lv_lmul hx hb dX5_digest_228 ?_
                    refine lv_lload hx hb dX5_digest_229 (lv_at hl 0 rfl) ?_
                    refine lv_ladd hx hb dX5_digest_231 ?_
                    refine lv_lstore_n (lv' := [(1, .long ((d7 * 31) + (tt (j)))), (6, .long (tt (j))), (5, .int (nI (j))), (4, .int (nI (4))), (3, .ref (b 12)), (0, .ref (b 0))]) hx hb dX5_digest_232 rfl hl (by decide) rfl (fun ls hl => ?_)
                    refine lv_iinc (v := nI (j + 1)) (lv' := [(5, .int (nI (j + 1))), (1, .long ((d7 * 31) + (tt (j)))), (6, .long (tt (j))), (4, .int (nI (4))), (3, .ref (b 12)), (0, .ref (b 0))]) hx hb dX5_digest_233 hl (k := 2) rfl (nI_add j 1) (by decide) rfl (fun ls hl => ?_)
                    refine lv_goto (tgt := 211) hx hb dX5_digest_236 (by decide) ?_
                    exact ih211 (j + 1) ((d7 * 31) + (tt (j))) _ (by omega) (by rw [hd7]; rfl) (by omega) (lv_sub hl [0, 3, 4, 1, 5] rfl)
              exact LOOP211 _ 0 ((d3 * 31) + ((nI (np)).toInt64)) _ (by omega) (by rw [hd3, show k = n by omega]; rfl) (Nat.lt_succ_self _) (lv_sub hl [0, 1, 2, 3, 4] rfl)
            · have c93 : ¬ (n ≤ k) := fun z => c93 ((nI_leI (a := n) (b := k) (by omega) (by omega)).mpr z)
              refine lv_iconst (v := nI 0) hx hb dX5_digest_96 (by decide) ?_
              refine lv_istore (lv' := [(4, .int (nI 0)), (3, .int (nI (k))), (1, .long (d3)), (0, .ref (b 0))]) hx hb dX5_digest_97 hl (by decide) rfl (fun ls hl => ?_)
              have LOOP99 : ∀ (n99 : Nat) (w : Nat) (d4 : Int64) (ls : Array Slot), (w ≤ 5) → (d4 = mixF (dM g1 (dW g1 ((6541 + (g1 13 0).toInt64) * 31 + (nI n).toInt64) n) k) (fun w => (machF g1 k w).toInt64) w) → (5 - w) < n99 → lv_has ls 8 [(4, .int (nI (w))), (3, .int (nI (k))), (1, .long (d4)), (0, .ref (b 0))] → W p l e (headSpec w_X5_digest ({ frames := 2, cells := 0, slots := 0, locals := 45 } : Room)).room s m ([.ref (b 0)] : List Value).toArray below meth c H1 locs 0 0 (MQ below (xQl (fun r h => r = digF g tt n np ∧ yW D cA b (thG g 0) tt n np h) A) ([.ref (b 0)] : List Value).toArray s 0 0 (A)) (F0 m 99 ls []) := by
                intro n99
                induction n99 with
                | zero => intro w d4 ls hw hd4 hmeas hl; exact absurd hmeas (Nat.not_lt_zero _)
                | succ n99 ih99 =>
                  intro w d4 ls hw hd4 hmeas hl
                  refine lv_iload hx hb dX5_digest_99 (lv_at hl 0 rfl) ?_
                  refine lv_iconst (v := nI 5) hx hb dX5_digest_101 (by decide) ?_
                  refine lv_icmp_ge (tgt := 126) hx hb dX5_digest_102 (by decide) (fun c102 => ?_) (fun c102 => ?_)
                  · have c102 : 5 ≤ w := (nI_leI (a := 5) (b := w) (by omega) (by omega)).mp c102
                    have hw5 : w = 5 := by omega
                    refine lv_bipush (v := nI 6) hx hb dX5_digest_126 (by decide) ?_
                    refine lv_iload_n hx hb dX5_digest_128 rfl (lv_at hl 1 rfl) ?_
                    refine lv_imul hx hb dX5_digest_129 ?_
                    refine xtop (show ((nI 6) * (nI (k))) = nI (6 * k) from pk_mul 6 k) ?_
                    refine lv_istore (lv' := [(4, .int (nI (6 * k))), (3, .int (nI (k))), (1, .long (d4)), (0, .ref (b 0))]) hx hb dX5_digest_130 hl (by decide) rfl (fun ls hl => ?_)
                    have LOOP132 : ∀ (n132 : Nat) (a : Nat) (d5 : Int64) (ls : Array Slot), (a ≤ 6) → (d5 = (mixS g1 k (mixF (dM g1 (dW g1 ((6541 + (g1 13 0).toInt64) * 31 + (nI n).toInt64) n) k) (fun w => (machF g1 k w).toInt64) 5) a)) → (6 - a) < n132 → lv_has ls 8 [(4, .int (nI (6 * k + a))), (3, .int (nI (k))), (1, .long (d5)), (0, .ref (b 0))] → W p l e (headSpec w_X5_digest ({ frames := 2, cells := 0, slots := 0, locals := 45 } : Room)).room s m ([.ref (b 0)] : List Value).toArray below meth c H1 locs 0 0 (MQ below (xQl (fun r h => r = digF g tt n np ∧ yW D cA b (thG g 0) tt n np h) A) ([.ref (b 0)] : List Value).toArray s 0 0 (A)) (F0 m 132 ls []) := by
                      intro n132
                      induction n132 with
                      | zero => intro a d5 ls ha hd5 hmeas hl; exact absurd hmeas (Nat.not_lt_zero _)
                      | succ n132 ih132 =>
                        intro a d5 ls ha hd5 hmeas hl
                        refine lv_iload hx hb dX5_digest_132 (lv_at hl 0 rfl) ?_
                        refine lv_bipush (v := nI 6) hx hb dX5_digest_134 (by decide) ?_
                        refine lv_iload_n hx hb dX5_digest_136 rfl (lv_at hl 1 rfl) ?_
                        refine lv_iconst (v := nI 1) hx hb dX5_digest_137 (by decide) ?_
                        refine lv_iadd hx hb dX5_digest_138 ?_
                        refine xtop (show ((nI (k)) + (nI 1)) = nI (k + 1) from nI_add k 1) ?_
                        refine lv_imul hx hb dX5_digest_139 ?_
                        refine xtop (show ((nI 6) * (nI (k + 1))) = nI (6 * (k + 1)) from pk_mul 6 (k + 1)) ?_
                        refine lv_icmp_ge (tgt := 181) hx hb dX5_digest_140 (by decide) (fun c140 => ?_) (fun c140 => ?_)
                        · have c140 : (6 * (k + 1)) ≤ (6 * k + a) := (nI_leI (a := 6 * (k + 1)) (b := 6 * k + a) (by omega) (by omega)).mp c140
                          have ha6 : a = 6 := by omega
                          refine lv_iinc (v := nI (k + 1)) (lv' := [(3, .int (nI (k + 1))), (4, .int (nI (6 * k + a))), (1, .long (d5)), (0, .ref (b 0))]) hx hb dX5_digest_181 hl (k := 1) rfl (nI_add k 1) (by decide) rfl (fun ls hl => ?_)
                          refine lv_goto (tgt := 88) hx hb dX5_digest_184 (by decide) ?_
                          exact ih88 (k + 1) d5 _ (by omega) (by rw [hd5, ha6]; rfl) (by omega) (lv_sub hl [0, 2, 3] rfl)
                        · have c140 : ¬ ((6 * (k + 1)) ≤ (6 * k + a)) := fun z => c140 ((nI_leI (a := 6 * (k + 1)) (b := 6 * k + a) (by omega) (by omega)).mpr z)
                          refine lv_iconst (v := nI 0) hx hb dX5_digest_143 (by decide) ?_
                          refine lv_istore (lv' := [(5, .int (nI 0)), (4, .int (nI (6 * k + a))), (3, .int (nI (k))), (1, .long (d5)), (0, .ref (b 0))]) hx hb dX5_digest_144 hl (by decide) rfl (fun ls hl => ?_)
                          have LOOP146 : ∀ (n146 : Nat) (w : Nat) (d6 : Int64) (ls : Array Slot), (w ≤ 6) → (d6 = mixF (mixS g1 k (mixF (dM g1 (dW g1 ((6541 + (g1 13 0).toInt64) * 31 + (nI n).toInt64) n) k) (fun w => (machF g1 k w).toInt64) 5) a) (fun w => (g1 (4 + w) (6 * k + a)).toInt64) w) → (6 - w) < n146 → lv_has ls 8 [(5, .int (nI (w))), (4, .int (nI (6 * k + a))), (3, .int (nI (k))), (1, .long (d6)), (0, .ref (b 0))] → W p l e (headSpec w_X5_digest ({ frames := 2, cells := 0, slots := 0, locals := 45 } : Room)).room s m ([.ref (b 0)] : List Value).toArray below meth c H1 locs 0 0 (MQ below (xQl (fun r h => r = digF g tt n np ∧ yW D cA b (thG g 0) tt n np h) A) ([.ref (b 0)] : List Value).toArray s 0 0 (A)) (F0 m 146 ls []) := by
                            intro n146
                            induction n146 with
                            | zero => intro w d6 ls hw hd6 hmeas hl; exact absurd hmeas (Nat.not_lt_zero _)
                            | succ n146 ih146 =>
                              intro w d6 ls hw hd6 hmeas hl
                              refine lv_iload hx hb dX5_digest_146 (lv_at hl 0 rfl) ?_
                              refine lv_bipush (v := nI 6) hx hb dX5_digest_148 (by decide) ?_
                              refine lv_icmp_ge (tgt := 175) hx hb dX5_digest_150 (by decide) (fun c150 => ?_) (fun c150 => ?_)
                              · have c150 : 6 ≤ w := (nI_leI (a := 6) (b := w) (by omega) (by omega)).mp c150
                                have hw6 : w = 6 := by omega
                                refine lv_iinc (v := nI (6 * k + a + 1)) (lv' := [(4, .int (nI (6 * k + a + 1))), (5, .int (nI (w))), (3, .int (nI (k))), (1, .long (d6)), (0, .ref (b 0))]) hx hb dX5_digest_175 hl (k := 1) rfl (nI_add (6 * k + a) 1) (by decide) rfl (fun ls hl => ?_)
                                refine lv_goto (tgt := 132) hx hb dX5_digest_178 (by decide) ?_
                                exact ih132 (a + 1) d6 _ (by omega) (by rw [hd6, hw6]; rfl) (by omega) (lv_sub hl [0, 2, 3, 4] rfl)
                              · have c150 : ¬ (6 ≤ w) := fun z => c150 ((nI_leI (a := 6) (b := w) (by omega) (by omega)).mpr z)
                                refine lv_lload_n hx hb dX5_digest_153 rfl (lv_at hl 3 rfl) ?_
                                refine lv_ldc2 (v := 31) hx hb hown (hts _ q_ko_X5_134) dX5_digest_154 ?_
                                refine lv_lmul hx hb dX5_digest_157 ?_
                                refine lv_aload_n hx hb dX5_digest_158 rfl (lv_at hl 4 rfl) ?_
                                refine lv_iload hx hb dX5_digest_159 (lv_at hl 1 rfl) ?_
                                refine lv_iload hx hb dX5_digest_161 (lv_at hl 0 rfl) ?_
                                refine xcRi (va_runV (As := [.int (nI (6 * k + a)), .int (nI (w))]) (rest := [.long (d6 * 31)]) ⟨hx, hb, hml, hown, hts⟩ (c_X5_slotOf l D cA e0 A H1 b g1 tt n np hX1 (6 * k + a) w (by omega) (by omega)) ⟨(callB_of 2 hts gi_X5_slotOf rfl rfl rfl (hts _ q_ini_X5) (hts _ q_ml_X5_89) hd_X5_slotOf ⟨Nat.le_of_ble_eq_true rfl, Nat.le_of_ble_eq_true rfl⟩), hts _ q_im_X5_slotOf, hts _ q_sel_X5_X5_slotOf⟩ (xpV hE hS (hX1.main) rfl) rfl rfl hl.1 rfl (lv_room (Nat.le_of_ble_eq_true rfl)) dX5_digest_163 ⟨Nat.le_of_ble_eq_true rfl, Nat.le_of_ble_eq_true rfl⟩) ?_
                                refine lv_i2l (v := (g1 (4 + w) (6 * k + a)).toInt64) hx hb dX5_digest_166 rfl ?_
                                refine lv_ladd hx hb dX5_digest_167 ?_
                                refine lv_lstore_n (lv' := [(1, .long ((d6 * 31) + ((g1 (4 + w) (6 * k + a)).toInt64))), (5, .int (nI (w))), (4, .int (nI (6 * k + a))), (3, .int (nI (k))), (0, .ref (b 0))]) hx hb dX5_digest_168 rfl hl (by decide) rfl (fun ls hl => ?_)
                                refine lv_iinc (v := nI (w + 1)) (lv' := [(5, .int (nI (w + 1))), (1, .long ((d6 * 31) + ((g1 (4 + w) (6 * k + a)).toInt64))), (4, .int (nI (6 * k + a))), (3, .int (nI (k))), (0, .ref (b 0))]) hx hb dX5_digest_169 hl (k := 1) rfl (nI_add w 1) (by decide) rfl (fun ls hl => ?_)
                                refine lv_goto (tgt := 146) hx hb dX5_digest_172 (by decide) ?_
                                exact ih146 (w + 1) ((d6 * 31) + ((g1 (4 + w) (6 * k + a)).toInt64)) _ (by omega) (by rw [hd6]; rfl) (by omega) (lv_sub hl [0, 2, 3, 1, 4] rfl)
                          exact LOOP146 _ 0 d5 _ (by omega) (by rw [hd5]; rfl) (Nat.lt_succ_self _) (lv_sub hl [0, 1, 2, 3, 4] rfl)
                    exact LOOP132 _ 0 d4 _ (by omega) (by rw [hd4, hw5]; rfl) (Nat.lt_succ_self _) (lv_sub hl [0, 1, 2, 3] rfl)
                  · have c102 : ¬ (5 ≤ w) := fun z => c102 ((nI_leI (a := 5) (b := w) (by omega) (by omega)).mpr z)
                    refine lv_lload_n hx hb dX5_digest_105 rfl (lv_at hl 2 rfl) ?_
                    refine lv_ldc2 (v := 31) hx hb hown (hts _ q_ko_X5_134) dX5_digest_106 ?_
                    refine lv_lmul hx hb dX5_digest_109 ?_
                    refine lv_aload_n hx hb dX5_digest_110 rfl (lv_at hl 3 rfl) ?_
                    refine lv_iload_n hx hb dX5_digest_111 rfl (lv_at hl 1 rfl) ?_
                    refine lv_iload hx hb dX5_digest_112 (lv_at hl 0 rfl) ?_
                    refine xcRi (va_runV (As := [.int (nI (k)), .int (nI (w))]) (rest := [.long (d4 * 31)]) ⟨hx, hb, hml, hown, hts⟩ (c_X5_told l D cA e0 A H1 b g1 tt n np hX1 hn8 k (by omega) w (by omega)) ⟨(callB_of 2 hts gi_X5_told rfl rfl rfl (hts _ q_ini_X5) (hts _ q_ml_X5_98) hd_X5_told ⟨Nat.le_of_ble_eq_true rfl, Nat.le_of_ble_eq_true rfl⟩), hts _ q_im_X5_told, hts _ q_sel_X5_X5_told⟩ (xpV hE hS (hX1.main) rfl) rfl rfl hl.1 rfl (lv_room (Nat.le_of_ble_eq_true rfl)) dX5_digest_114 ⟨Nat.le_of_ble_eq_true rfl, Nat.le_of_ble_eq_true rfl⟩) ?_
                    refine lv_i2l (v := (machF g1 k w).toInt64) hx hb dX5_digest_117 rfl ?_
                    refine lv_ladd hx hb dX5_digest_118 ?_
                    refine lv_lstore_n (lv' := [(1, .long ((d4 * 31) + ((machF g1 k w).toInt64))), (4, .int (nI (w))), (3, .int (nI (k))), (0, .ref (b 0))]) hx hb dX5_digest_119 rfl hl (by decide) rfl (fun ls hl => ?_)
                    refine lv_iinc (v := nI (w + 1)) (lv' := [(4, .int (nI (w + 1))), (1, .long ((d4 * 31) + ((machF g1 k w).toInt64))), (3, .int (nI (k))), (0, .ref (b 0))]) hx hb dX5_digest_120 hl (k := 1) rfl (nI_add w 1) (by decide) rfl (fun ls hl => ?_)
                    refine lv_goto (tgt := 99) hx hb dX5_digest_123 (by decide) ?_
                    exact ih99 (w + 1) ((d4 * 31) + ((machF g1 k w).toInt64)) _ (by omega) (by rw [hd4]; rfl) (by omega) (lv_sub hl [0, 2, 1, 3] rfl)
              exact LOOP99 _ 0 d3 _ (by omega) (by rw [hd3]; rfl) (Nat.lt_succ_self _) (lv_sub hl [0, 1, 2, 3] rfl)
        exact LOOP88 _ 0 d1 _ (by omega) (by rw [hd1, show k = n by omega]; rfl) (Nat.lt_succ_self _) (lv_sub hl [0, 1, 2] rfl)
      · have c32 : ¬ (n ≤ k) := fun z => c32 ((nI_leI (a := n) (b := k) (by omega) (by omega)).mpr z)
        refine lv_lload_n hx hb dX5_digest_35 rfl (lv_at hl 1 rfl) ?_
        refine lv_ldc2 (v := 31) hx hb hown (hts _ q_ko_X5_134) dX5_digest_36 ?_
        refine lv_lmul hx hb dX5_digest_39 ?_
        refine lv_aload_n hx hb dX5_digest_40 rfl (lv_at hl 2 rfl) ?_
        refine lv_bipush (v := nI 8) hx hb dX5_digest_41 (by decide) ?_
        refine lv_iload_n hx hb dX5_digest_43 rfl (lv_at hl 0 rfl) ?_
        refine xcRi (va_runV (As := [.int (nI 8), .int (nI (k))]) (rest := [.long (d1 * 31)]) ⟨hx, hb, hml, hown, hts⟩ (c_X5_way l D cA e0 A H1 b g1 tt n np hX1 8 k (by omega) (by omega)) ⟨(callB_of 2 hts gi_X5_way rfl rfl rfl (hts _ q_ini_X5) (hts _ q_ml_X5_70) hd_X5_way ⟨Nat.le_of_ble_eq_true rfl, Nat.le_of_ble_eq_true rfl⟩), hts _ q_im_X5_way, hts _ q_sel_X5_X5_way⟩ (xpV hE hS (hX1.main) rfl) rfl rfl hl.1 rfl (lv_room (Nat.le_of_ble_eq_true rfl)) dX5_digest_44 ⟨Nat.le_of_ble_eq_true rfl, Nat.le_of_ble_eq_true rfl⟩) ?_
        refine lv_i2l (v := (wy g1 8 k).toInt64) hx hb dX5_digest_47 rfl ?_
        refine lv_ladd hx hb dX5_digest_48 ?_
        refine lv_lstore_n (lv' := [(1, .long ((d1 * 31) + ((wy g1 8 k).toInt64))), (3, .int (nI (k))), (0, .ref (b 0))]) hx hb dX5_digest_49 rfl hl (by decide) rfl (fun ls hl => ?_)
        refine lv_iconst (v := nI 0) hx hb dX5_digest_50 (by decide) ?_
        refine lv_istore (lv' := [(4, .int (nI 0)), (1, .long ((d1 * 31) + ((wy g1 8 k).toInt64))), (3, .int (nI (k))), (0, .ref (b 0))]) hx hb dX5_digest_51 hl (by decide) rfl (fun ls hl => ?_)
        have LOOP53 : ∀ (n53 : Nat) (j : Nat) (d2 : Int64) (ls : Array Slot), (j ≤ k) → (d2 = mixF (dW g1 ((6541 + (g1 13 0).toInt64) * 31 + (nI n).toInt64) k) (fun j => (wy g1 ((j + 8) % 9) k).toInt64) (j + 1)) → (k - j) < n53 → lv_has ls 8 [(4, .int (nI (j))), (3, .int (nI (k))), (1, .long (d2)), (0, .ref (b 0))] → W p l e (headSpec w_X5_digest ({ frames := 2, cells := 0, slots := 0, locals := 45 } : Room)).room s m ([.ref (b 0)] : List Value).toArray below meth c H1 locs 0 0 (MQ below (xQl (fun r h => r = digF g tt n np ∧ yW D cA b (thG g 0) tt n np h) A) ([.ref (b 0)] : List Value).toArray s 0 0 (A)) (F0 m 53 ls []) := by
          intro n53
          induction n53 with
          | zero => intro j d2 ls hj hd2 hmeas hl; exact absurd hmeas (Nat.not_lt_zero _)
          | succ n53 ih53 =>
            intro j d2 ls hj hd2 hmeas hl
            refine lv_iload hx hb dX5_digest_53 (lv_at hl 0 rfl) ?_
            refine lv_iload_n hx hb dX5_digest_55 rfl (lv_at hl 1 rfl) ?_
            refine lv_icmp_ge (tgt := 80) hx hb dX5_digest_56 (by decide) (fun c56 => ?_) (fun c56 => ?_)
            · have c56 : k ≤ j := (nI_leI (a := k) (b := j) (by omega) (by omega)).mp c56
              refine lv_iinc (v := nI (k + 1)) (lv' := [(3, .int (nI (k + 1))), (4, .int (nI (j))), (1, .long (d2)), (0, .ref (b 0))]) hx hb dX5_digest_80 hl (k := 1) rfl (nI_add k 1) (by decide) rfl (fun ls hl => ?_)
              refine lv_goto (tgt := 27) hx hb dX5_digest_83 (by decide) ?_
              exact ih27 (k + 1) d2 _ (by omega) (by rw [hd2, show j = k by omega]; rfl) (by omega) (lv_sub hl [0, 2, 3] rfl)
            · have c56 : ¬ (k ≤ j) := fun z => c56 ((nI_leI (a := k) (b := j) (by omega) (by omega)).mpr z)
              refine lv_lload_n hx hb dX5_digest_59 rfl (lv_at hl 2 rfl) ?_
              refine lv_ldc2 (v := 31) hx hb hown (hts _ q_ko_X5_134) dX5_digest_60 ?_
              refine lv_lmul hx hb dX5_digest_63 ?_
              refine lv_aload_n hx hb dX5_digest_64 rfl (lv_at hl 3 rfl) ?_
              refine lv_iload hx hb dX5_digest_65 (lv_at hl 0 rfl) ?_
              refine lv_iload_n hx hb dX5_digest_67 rfl (lv_at hl 1 rfl) ?_
              refine xcRi (va_runV (As := [.int (nI (j)), .int (nI (k))]) (rest := [.long (d2 * 31)]) ⟨hx, hb, hml, hown, hts⟩ (c_X5_way l D cA e0 A H1 b g1 tt n np hX1 j k (by omega) (by omega)) ⟨(callB_of 2 hts gi_X5_way rfl rfl rfl (hts _ q_ini_X5) (hts _ q_ml_X5_70) hd_X5_way ⟨Nat.le_of_ble_eq_true rfl, Nat.le_of_ble_eq_true rfl⟩), hts _ q_im_X5_way, hts _ q_sel_X5_X5_way⟩ (xpV hE hS (hX1.main) rfl) rfl rfl hl.1 rfl (lv_room (Nat.le_of_ble_eq_true rfl)) dX5_digest_68 ⟨Nat.le_of_ble_eq_true rfl, Nat.le_of_ble_eq_true rfl⟩) ?_
              refine lv_i2l (v := (wy g1 j k).toInt64) hx hb dX5_digest_71 rfl ?_
              refine lv_ladd hx hb dX5_digest_72 ?_
              refine lv_lstore_n (lv' := [(1, .long ((d2 * 31) + ((wy g1 j k).toInt64))), (4, .int (nI (j))), (3, .int (nI (k))), (0, .ref (b 0))]) hx hb dX5_digest_73 rfl hl (by decide) rfl (fun ls hl => ?_)
              refine lv_iinc (v := nI (j + 1)) (lv' := [(4, .int (nI (j + 1))), (1, .long ((d2 * 31) + ((wy g1 j k).toInt64))), (3, .int (nI (k))), (0, .ref (b 0))]) hx hb dX5_digest_74 hl (k := 1) rfl (nI_add j 1) (by decide) rfl (fun ls hl => ?_)
              refine lv_goto (tgt := 53) hx hb dX5_digest_77 (by decide) ?_
              exact ih53 (j + 1) ((d2 * 31) + ((wy g1 j k).toInt64)) _ (by omega) (by
                  rw [hd2]
                  show _ = mixF (dW g1 ((6541 + (g1 13 0).toInt64) * 31 + (nI n).toInt64) k) (fun j => (wy g1 ((j + 8) % 9) k).toInt64) (j + 1) * 31 + (wy g1 ((j + 1 + 8) % 9) k).toInt64
                  rw [show (j + 1 + 8) % 9 = j by omega]) (by omega) (lv_sub hl [0, 2, 1, 3] rfl)
        exact LOOP53 _ 0 ((d1 * 31) + ((wy g1 8 k).toInt64)) _ (by omega) (by rw [hd1]; rfl) (Nat.lt_succ_self _) (lv_sub hl [0, 2, 1, 3] rfl)
  exact LOOP27 _ 0 (((6541 + ((g1 13 0).toInt64)) * 31) + ((nI (n)).toInt64)) _ (by omega) rfl (Nat.lt_succ_self _) (lv_sub hl [0, 1, 2] rfl)
