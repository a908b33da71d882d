/-! .. removeStep -/
theorem c_indexOf {S : Mem} {t : Nat} (t1 : S.1 2 = nI t) (ht : t ≤ 6) (x : Int32) : f_X5_indexOf S x = some (oi (fnd (fun p => decide (S.2 7 p = x)) t 0)) := by
  unfold f_X5_indexOf
  rw [li_0]
  refine (lpS (fun n i => f_X5_indexOf_L2 x S (some (-1)) n i) (some (-1)) (fun p => decide (S.2 7 p = x)) (fun j => some (nI j)) t ?_ ?_ t 40 0 (by omega) (by omega)).trans (fk_so _ _ _)
  · intro n
    simp (disch := omega) only [f_X5_indexOf_L2, t1, li_0, li_1, li_2, li_3, li_4, li_5, li_6, li_7, li_8, li_9, li_10, li_11, li_12, li_16, li_20, li_23, li_24, li_30, li_32, li_35, li_37, li_40, li_42, li_46, li_48, li_53, li_57, li_58, li_59, li_60, li_63, li_64, li_65, li_97, li_99, li_100, li_101, li_120, li_126, li_132, li_148, li_300, li_999, li_1036, li_1184, li_9999, nn1, nI_leI, nI_ltI, nI_eq, nI_add, pk_mul, pk_sub, nI_clamp, ib_nI, if_pos, if_neg, if_true, if_false, eq_self, ob]
  · intro n i hi
    simp (disch := omega) only [f_X5_indexOf_L2, t1, decide_eq_true_eq, li_0, li_1, li_2, li_3, li_4, li_5, li_6, li_7, li_8, li_9, li_10, li_11, li_12, li_16, li_20, li_23, li_24, li_30, li_32, li_35, li_37, li_40, li_42, li_46, li_48, li_53, li_57, li_58, li_59, li_60, li_63, li_64, li_65, li_97, li_99, li_100, li_101, li_120, li_126, li_132, li_148, li_300, li_999, li_1036, li_1184, li_9999, nn1, nI_leI, nI_ltI, nI_eq, nI_add, pk_mul, pk_sub, nI_clamp, ib_nI, if_pos, if_neg, if_true, if_false, eq_self, ob]
theorem TrfOK.del {S S' : Mem} {t p : Nat} (T : TrfOK S t) (hp : p < t) (hc : S'.1 2 = nI (t - 1))
    (h7 : ∀ k, k < t - 1 → S'.2 7 k = S.2 7 (if k < p then k else k + 1)) (h8 : ∀ k, k < t - 1 → S'.2 8 k = S.2 8 (if k < p then k else k + 1)) : TrfOK S' (t - 1) := by
  obtain ⟨a1, a2, a3, a4⟩ := T
  have e7 : ∀ k, k < t - 1 → thr S' k = thr S (if k < p then k else k + 1) := fun k hk => congrArg nv (h7 k hk)
  have e8 : ∀ k, k < t - 1 → rat S' k = rat S (if k < p then k else k + 1) := fun k hk => congrArg nv (h8 k hk)
  refine ⟨hc, by omega, fun k hk => ?_, fun k k' hk hk' => ?_⟩
  · rw [e7 k hk, e8 k hk, h7 k hk, h8 k hk]
    exact a3 _ (by split <;> omega)
  · rw [e7 k (by omega), e7 k' hk']
    exact a4 _ _ (by split <;> split <;> omega) (by split <;> omega)
section OPS6
variable {S M : Mem} {N : Nat}
theorem op_unstep (s : St N S (M.2 0)) (x : Int32) : Op N S M [(-1, 1)] (f_X5_remove S x) (f_X7_removesStep M x) := by
  obtain ⟨c, t, q, R, I, D⟩ := s
  have hc := R.c
  have hq := R.q
  have ht := R.t
  have t1 := R.t1
  have t2 := R.t2
  have ix := c_indexOf R.t1 R.t x
  have sx : ∀ (kk : Int32 → Option (Int32 × Mem)), f_X7_removesStep_L2 x M kk 40 (nI 0) = fk (fnd (fun p => decide (S.2 7 p = x)) t 0) (kk (nI t)) (fun j => kk (nI j)) := by
    intro kk
    refine lpS (fun n i => f_X7_removesStep_L2 x M kk n i) (kk (nI t)) (fun p => decide (S.2 7 p = x)) (fun j => kk (nI j)) t ?_ ?_ t 40 0 (by omega) (by omega)
    · intro n
      simp (disch := omega) only [f_X7_removesStep_L2, t2, li_0, li_1, li_2, li_3, li_4, li_5, li_6, li_7, li_8, li_9, li_10, li_11, li_12, li_16, li_20, li_23, li_24, li_30, li_32, li_35, li_37, li_40, li_42, li_46, li_48, li_53, li_57, li_58, li_59, li_60, li_63, li_64, li_65, li_97, li_99, li_100, li_101, li_120, li_126, li_132, li_148, li_300, li_999, li_1036, li_1184, li_9999, nn1, nI_leI, nI_ltI, nI_eq, nI_add, pk_mul, pk_sub, nI_clamp, ib_nI, if_pos, if_neg, if_true, if_false, eq_self, ob]
    · intro n i hi
      have e := R.th hi
      simp (disch := omega) only [f_X7_removesStep_L2, t2, e, decide_eq_true_eq, li_0, li_1, li_2, li_3, li_4, li_5, li_6, li_7, li_8, li_9, li_10, li_11, li_12, li_16, li_20, li_23, li_24, li_30, li_32, li_35, li_37, li_40, li_42, li_46, li_48, li_53, li_57, li_58, li_59, li_60, li_63, li_64, li_65, li_97, li_99, li_100, li_101, li_120, li_126, li_132, li_148, li_300, li_999, li_1036, li_1184, li_9999, nn1, nI_leI, nI_ltI, nI_eq, nI_add, pk_mul, pk_sub, nI_clamp, ib_nI, if_pos, if_neg, if_true, if_false, eq_self, ob]
  rcases fnd_at (g := S.2 7) (x := x) (c := t) with ⟨f1, f2⟩ | ⟨p, f1, f2, f3, f4⟩
  · refine Or.inl ⟨(-1, 1), by simp, ?_, ?_⟩
    · rw [f1] at ix
      simp (disch := omega) only [f_X5_remove, ix, oi_n, m1_le, nI_leI, nI_ltI, nI_eq, nI_add, pk_mul, pk_sub, nI_clamp, ib_nI, if_pos, if_neg, if_true, if_false, eq_self, ob, li_0]
    · simp (disch := omega) only [f_X7_removesStep, sx, f1, fk_n, t2, nI_leI, nI_ltI, nI_eq, nI_add, pk_mul, pk_sub, nI_clamp, ib_nI, if_pos, if_neg, if_true, if_false, eq_self, ob, li_0, li_2]
  · obtain ⟨b1, b2, b3, b4⟩ := I.2.1.2.2.1 p f2
    have HC := lpI (fun n i a => f_X5_remove_L22 (nI (rat S p)) (fun S_10 => some (nI (rat S p), (wrI S_10 2 ((S_10.1 2) - nI 1)))) n i a) (fun S_10 => some (nI (rat S p), (wrI S_10 2 ((S_10.1 2) - nI 1)))) (fun i a => p ≤ i ∧ a.1 = S.1 ∧ (∀ j y, (j = 7 ∨ j = 8) → a.2 j y = S.2 j (if p ≤ y ∧ y < i then y + 1 else y)) ∧ ∀ j y, j ≠ 7 → j ≠ 8 → a.2 j y = S.2 j y) (t - 1) ?_ ?_ (t - 1 - p) 40 p S (by omega) (by omega) ⟨Nat.le_refl p, rfl, fun j y _ => by rw [if_neg (by omega)], fun j y _ _ => rfl⟩
    have HM := lpI (fun n i a => f_X7_removesStep_L74 (nI (rat S p)) (fun M_15 =>
        if ib (nI 120 + nI 2 * (M_15.2 0 2)) 148 = true then
        if ib (nI 120 + nI 2 * ((wrA M_15 0 (nI 120 + nI 2 * (M_15.2 0 2)) (nI 0)).2 0 2) + nI 1) 148 = true then
        some (0, wrI (wrA (wrA M_15 0 (nI 120 + nI 2 * (M_15.2 0 2)) (nI 0)) 0 (nI 120 + nI 2 * ((wrA M_15 0 (nI 120 + nI 2 * (M_15.2 0 2)) (nI 0)).2 0 2) + nI 1) (nI 0)) 7 (nI (rat S p)))
        else none
        else none) n i a) (fun M_15 =>
        if ib (nI 120 + nI 2 * (M_15.2 0 2)) 148 = true then
        if ib (nI 120 + nI 2 * ((wrA M_15 0 (nI 120 + nI 2 * (M_15.2 0 2)) (nI 0)).2 0 2) + nI 1) 148 = true then
        some (0, wrI (wrA (wrA M_15 0 (nI 120 + nI 2 * (M_15.2 0 2)) (nI 0)) 0 (nI 120 + nI 2 * ((wrA M_15 0 (nI 120 + nI 2 * (M_15.2 0 2)) (nI 0)).2 0 2) + nI 1) (nI 0)) 7 (nI (rat S p)))
        else none
        else none) (fun i a => 2 * p ≤ i ∧ a.1 = M.1 ∧ a.2 0 2 = nI (t - 1) ∧ (∀ y, y ≠ 2 → a.2 0 y = M.2 0 (if 120 + 2 * p ≤ y ∧ y < 120 + i then y + 2 else y)) ∧ ∀ j y, j ≠ 0 → a.2 j y = M.2 j y) (2 * (t - 1)) ?_ ?_ (2 * (t - 1) - 2 * p) 40 (2 * p) (wrA M 0 (nI 2) (nI (t - 1))) (by omega) (by omega) ⟨Nat.le_refl _, rfl, ?_, fun y hy => ?_, fun j y hj => ?_⟩
    · obtain ⟨a, ⟨c0, c1, c2, c3⟩, c4⟩ := HC
      obtain ⟨b, ⟨d0, d1, d2, d3, d5⟩, d4⟩ := HM
      have ca : a.1 2 = nI t := by rw [c1, t1]
      rw [ca, pk_sub (by omega)] at c4
      have g5 : M.2 0 (120 + 2 * p + 1) = nI (rat S p) := (R.ra f2).trans b3
      refine Or.inr ⟨rat S p, wrI a 2 (nI (t - 1)), wrI (wrA (wrA b 0 (nI (120 + 2 * (t - 1))) (nI 0)) 0 (nI (120 + 2 * (t - 1) + 1)) (nI 0)) 7 (nI (rat S p)), by omega, ?_, ?_, by rw [wrI_1, if_pos rfl], ?_, c, t - 1, q, ?_, ?_, ?_⟩
      · rw [f1] at ix
        simp (disch := omega) only [f_X5_remove, ix, oi_s, b3, nI_pos', nI_leI, nI_ltI, nI_eq, nI_add, pk_mul, pk_sub, nI_clamp, ib_nI, if_pos, if_neg, if_true, if_false, eq_self, ob, li_1]
        exact c4
      · simp (disch := omega) only [f_X7_removesStep, f_X7_done, sx, f1, fk_s, t2, g5, nI_leI, nI_ltI, nI_eq, nI_add, pk_mul, pk_sub, nI_clamp, ib_nI, if_pos, if_neg, if_true, if_false, eq_self, ob, li_0, li_1, li_2, li_120]
        refine Eq.trans d4 ?_
        simp (disch := omega) only [d2, wr_at, true_and, nI_leI, nI_ltI, nI_eq, nI_add, pk_mul, pk_sub, nI_clamp, ib_nI, if_pos, if_neg, if_true, if_false, eq_self, ob]
        rfl
      · exact ⟨fun k hk => by rw [wrI_1, if_neg hk, wrA_1, wrA_1, d1], fun j y h0 _ => by rw [wrI_2, wrA_2, if_neg h0, wrA_2, if_neg h0, d5 j y h0]⟩
      · obtain ⟨⟨r1, r2, r3, r4⟩, ⟨b1, b2, b3⟩, ⟨g1, g2, g3⟩, ⟨l1, l2, l3, l4⟩, m1, m2, m3⟩ := R
        rw [wrI_2]
        have z : ∀ y, y ≠ 2 → (y < 120 ∨ 132 ≤ y) → (wrA (wrA b 0 (nI (120 + 2 * (t - 1))) (nI 0)) 0 (nI (120 + 2 * (t - 1) + 1)) (nI 0)).2 0 y = M.2 0 y := by
          intro y e1 e2
          rw [wr_at _ _ (by omega), if_neg (by omega), wr_at _ _ (by omega), if_neg (by omega), d3 y e1, if_neg (by omega)]
        have w1 : ∀ k, k ≠ 2 → (wrI a 2 (nI (t - 1))).1 k = S.1 k := by
          intro k hk
          rw [wrI_1, if_neg hk, c1]
        have w2 : ∀ j y, j ≠ 7 → j ≠ 8 → (wrI a 2 (nI (t - 1))).2 j y = S.2 j y := fun j y e1 e2 => c3 j y e1 e2
        refine ⟨⟨?_, ?_, ?_, r4⟩, ⟨?_, ?_, by omega⟩, ⟨?_, ?_, g3⟩, ⟨?_, ?_, ?_, ?_⟩, fun p' hp' j' hj' => ?_, fun k hk => ⟨?_, ?_⟩, fun k hk => ?_⟩
        · rw [z 0 (by omega) (by omega), w1 1 (by omega), r1]
        · rw [w1 0 (by omega), r2]
        · rw [z 1 (by omega) (by omega), r3]
        · rw [wrI_1, if_pos rfl]
        · rw [wr_at _ _ (by omega), if_neg (by omega), wr_at _ _ (by omega), if_neg (by omega), d2]
        · rw [w1 7 (by omega), g1]
        · rw [z 7 (by omega) (by omega), g2]
        · rw [z 3 (by omega) (by omega), w1 5 (by omega), l1]
        · rw [z 4 (by omega) (by omega), w1 3 (by omega), l2]
        · rw [z 5 (by omega) (by omega), w1 4 (by omega), l3]
        · rw [z 6 (by omega) (by omega), w1 6 (by omega), l4]
        · rw [z _ (by omega) (by omega), w2 j' p' (by omega) (by omega), m1 p' hp' j' hj']
        · have g1 := d3 (120 + 2 * k) (by omega)
          have g2 := c2 7 k (Or.inl rfl)
          by_cases f : p ≤ k
          · rw [if_pos (by omega), show 120 + 2 * k + 2 = 120 + 2 * (k + 1) by omega, (m2 (k + 1) (by omega)).1] at g1
            rw [if_pos (by omega)] at g2
            simp (disch := omega) only [wrI_2, wr_at, if_neg, g1, g2]
          · rw [if_neg (by omega), (m2 k (by omega)).1] at g1
            rw [if_neg (by omega)] at g2
            simp (disch := omega) only [wrI_2, wr_at, if_neg, g1, g2]
        · have g1 := d3 (120 + 2 * k + 1) (by omega)
          have g2 := c2 8 k (Or.inr rfl)
          by_cases f : p ≤ k
          · rw [if_pos (by omega), show 120 + 2 * k + 1 + 2 = 120 + 2 * (k + 1) + 1 by omega, (m2 (k + 1) (by omega)).2] at g1
            rw [if_pos (by omega)] at g2
            simp (disch := omega) only [wrI_2, wr_at, if_neg, g1, g2]
          · rw [if_neg (by omega), (m2 k (by omega)).2] at g1
            rw [if_neg (by omega)] at g2
            simp (disch := omega) only [wrI_2, wr_at, if_neg, g1, g2]
        · rw [z _ (by omega) (by omega), w2 9 k (by omega) (by omega), m3 k hk]
      · obtain ⟨J1, J2, J3, J4⟩ := I
        refine ⟨J1.same (fun j p hp hj => c3 j p (by omega) (by omega)), J2.del f2 (by rw [wrI_1, if_pos rfl]) (fun k hk => ?_) (fun k hk => ?_), J3.same (fun p hp => c3 0 p (by omega) (by omega)) (fun k hk => c3 9 k (by omega) (by omega)), by rw [wrI_1, if_neg (by omega), c1]; exact J4⟩
        · rw [wrI_2, c2 7 k (Or.inl rfl)]
          by_cases f : k < p
          · rw [if_neg (by omega), if_pos f]
          · rw [if_pos (by omega), if_neg f]
        · rw [wrI_2, c2 8 k (Or.inr rfl)]
          by_cases f : k < p
          · rw [if_neg (by omega), if_pos f]
          · rw [if_pos (by omega), if_neg f]
      · exact (IdOK.same (S := wrI a 2 (nI (t - 1))) (T := S) (by rw [wrI_1, if_neg (by omega), c1]) (fun p _ => c3 0 p (by omega) (by omega)) D).mono (by omega)
    · intro n a ⟨a0, a1, a2, a3, a4⟩
      simp (disch := omega) only [f_X7_removesStep_L74, a2, li_0, li_1, li_2, li_3, li_4, li_5, li_6, li_7, li_8, li_9, li_10, li_11, li_12, li_16, li_20, li_23, li_24, li_30, li_32, li_35, li_37, li_40, li_42, li_46, li_48, li_53, li_57, li_58, li_59, li_60, li_63, li_64, li_65, li_97, li_99, li_100, li_101, li_120, li_126, li_132, li_148, li_300, li_999, li_1036, li_1184, li_9999, nn1, nI_leI, nI_ltI, nI_eq, nI_add, pk_mul, pk_sub, nI_clamp, ib_nI, if_pos, if_neg, if_true, if_false, eq_self, ob]
    · intro n i a hi ⟨a0, a1, a2, a3, a4⟩
      refine ⟨wrA a 0 (nI (120 + i)) (a.2 0 (120 + i + 2)), ⟨by omega, a1, by rw [wr_at _ _ (by omega), if_neg (by omega), a2], fun y hy => ?_, fun j y hj => by rw [wr_at _ _ (by omega), if_neg (by omega), a4 j y hj]⟩, ?_⟩
      · rw [wr_at _ _ (by omega)]
        by_cases e : y = 120 + i
        · rw [if_pos (by omega), if_pos (by omega), a3 _ (by omega), if_neg (by omega), e]
        · rw [if_neg (by omega), a3 y hy]
          by_cases g : 120 + 2 * p ≤ y ∧ y < 120 + i
          · rw [if_pos g, if_pos (by omega)]
          · rw [if_neg g, if_neg (by omega)]
      · simp (disch := omega) only [f_X7_removesStep_L74, a2, li_0, li_1, li_2, li_3, li_4, li_5, li_6, li_7, li_8, li_9, li_10, li_11, li_12, li_16, li_20, li_23, li_24, li_30, li_32, li_35, li_37, li_40, li_42, li_46, li_48, li_53, li_57, li_58, li_59, li_60, li_63, li_64, li_65, li_97, li_99, li_100, li_101, li_120, li_126, li_132, li_148, li_300, li_999, li_1036, li_1184, li_9999, nn1, nI_leI, nI_ltI, nI_eq, nI_add, pk_mul, pk_sub, nI_clamp, ib_nI, if_pos, if_neg, if_true, if_false, eq_self, ob]
    · rw [wr_at _ _ (by omega), if_pos (by omega)]
    · rw [wr_at _ _ (by omega), if_neg (by omega), if_neg (by omega)]
    · rw [wr_at _ _ (by omega), if_neg (by omega)]
    · intro n a ⟨a0, a1, a2, a3⟩
      have ca : a.1 2 = nI t := by rw [a1, t1]
      simp (disch := omega) only [f_X5_remove_L22, ca, li_0, li_1, li_2, li_3, li_4, li_5, li_6, li_7, li_8, li_9, li_10, li_11, li_12, li_16, li_20, li_23, li_24, li_30, li_32, li_35, li_37, li_40, li_42, li_46, li_48, li_53, li_57, li_58, li_59, li_60, li_63, li_64, li_65, li_97, li_99, li_100, li_101, li_120, li_126, li_132, li_148, li_300, li_999, li_1036, li_1184, li_9999, nn1, nI_leI, nI_ltI, nI_eq, nI_add, pk_mul, pk_sub, nI_clamp, ib_nI, if_pos, if_neg, if_true, if_false, eq_self, ob]
    · intro n i a hi ⟨a0, a1, a2, a3⟩
      have ca : a.1 2 = nI t := by rw [a1, t1]
      refine ⟨wrA (wrA a 7 (nI i) (a.2 7 (i + 1))) 8 (nI i) (a.2 8 (i + 1)), ⟨by omega, a1, fun j y hj => ?_, fun j y h7 h8 => ?_⟩, ?_⟩
      · have g1 := a2 j (i + 1) hj
        rw [if_neg (by omega)] at g1
        by_cases e : y = i
        · subst e
          rw [if_pos (by omega)]
          rcases hj with hj | hj <;> subst hj <;> simp (disch := omega) only [wr_at, g1, true_and, false_and, and_self, if_true, if_neg]
        · have g2 := a2 j y hj
          rw [wr_at _ _ (by omega), if_neg (by omega), wr_at _ _ (by omega), if_neg (by omega), g2]
          by_cases g : p ≤ y ∧ y < i
          · rw [if_pos g, if_pos (by omega)]
          · rw [if_neg g, if_neg (by omega)]
      · rw [wr_at _ _ (by omega), if_neg (by omega), wr_at _ _ (by omega), if_neg (by omega), a3 j y h7 h8]
      · simp (disch := omega) only [f_X5_remove_L22, ca, li_0, li_1, li_2, li_3, li_4, li_5, li_6, li_7, li_8, li_9, li_10, li_11, li_12, li_16, li_20, li_23, li_24, li_30, li_32, li_35, li_37, li_40, li_42, li_46, li_48, li_53, li_57, li_58, li_59, li_60, li_63, li_64, li_65, li_97, li_99, li_100, li_101, li_120, li_126, li_132, li_148, li_300, li_999, li_1036, li_1184, li_9999, nn1, nI_leI, nI_ltI, nI_eq, nI_add, pk_mul, pk_sub, nI_clamp, ib_nI, if_pos, if_neg, if_true, if_false, eq_self, ob]
end OPS6
