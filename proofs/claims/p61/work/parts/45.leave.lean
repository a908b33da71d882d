/-! a lot leaves -/
theorem c_removeLot (S : Mem) {c p : Nat} (hc : S.1 0 = nI c) (h : c ≤ 16) (hp : p < c) (L : ∀ p', p < p' → p' < c → lotOK S p') : ∃ S', f_X3_remove S (nI p) = some S' ∧ (∀ k, S'.1 k = if k = 0 then nI (c - 1) else S.1 k) ∧ (∀ j i, i < c - 1 → j < 7 → S'.2 j i = S.2 j (if i < p then i else i + 1)) ∧ ∀ j i, 7 ≤ j → S'.2 j i = S.2 j i := by
  unfold f_X3_remove
  have H := lpI (fun n i a => f_X3_remove_L2 (fun S_4 => some (wrI S_4 0 ((S_4.1 0) - 1))) n i a) (fun S_4 => some (wrI S_4 0 ((S_4.1 0) - 1))) (fun i a => a.1 = S.1 ∧ p ≤ i ∧ (∀ j x, j < 7 → a.2 j x = S.2 j (if p ≤ x ∧ x < i then x + 1 else x)) ∧ ∀ j x, 7 ≤ j → a.2 j x = S.2 j x) (c - 1) ?_ ?_ (c - 1 - p) 40 p S (by omega) (by omega) ⟨rfl, Nat.le_refl p, fun j x _ => by rw [if_neg (by omega)], fun j x _ => rfl⟩
  · obtain ⟨a, ⟨h1, h0, h2, h3⟩, h4⟩ := H
    refine ⟨_, h4, fun k => ?_, fun j i hi hj => ?_, fun j i hj => ?_⟩
    · simp only [wrI_1, h1, hc]
      rw [li_1, pk_sub (by omega)]
    · rw [wrI_2, h2 j i hj]
      by_cases e : i < p
      · rw [if_neg (by omega), if_pos e]
      · rw [if_pos (by omega), if_neg e]
    · rw [wrI_2, h3 j i hj]
  · intro n a ⟨a1, _⟩
    have hca : a.1 0 = nI c := by rw [a1, hc]
    simp (disch := omega) only [f_X3_remove_L2, hca, li_1, nI_leI, nI_ltI, nI_eq, nI_add, pk_mul, pk_sub, nI_clamp, ib_nI, if_pos, if_neg, if_true, if_false, eq_self, ob]
  · intro n i a hi ⟨a1, a0, a2, a3⟩
    have hca : a.1 0 = nI c := by rw [a1, hc]
    have hL : lotOK a (i + 1) := (L (i + 1) (by omega) (by omega)).same (fun j hj => by rw [a2 j (i + 1) hj, if_neg (by omega)])
    obtain ⟨S', e, b1, b2⟩ := c_take a (a := i + 1) (b := i) (by omega) (by omega) hL
    refine ⟨S', ⟨by rw [b1, a1], by omega, fun j x hj => ?_, fun j x hj => ?_⟩, ?_⟩
    · rw [b2]
      by_cases e : x = i
      · rw [if_pos ⟨hj, e⟩, a2 j (i + 1) hj, if_neg (by omega), if_pos (by omega), e]
      · rw [if_neg (fun h => e h.2), a2 j x hj]
        by_cases g : p ≤ x ∧ x < i
        · rw [if_pos g, if_pos (by omega)]
        · rw [if_neg g, if_neg (by omega)]
    · rw [b2, if_neg (by omega), a3 j x hj]
    · simp (disch := omega) only [f_X3_remove_L2, hca, ts_eq, e, li_1, nI_leI, nI_ltI, nI_eq, nI_add, pk_mul, pk_sub, nI_clamp, ib_nI, if_pos, if_neg, if_true, if_false, eq_self, ob]
theorem c_removeQue (S : Mem) {q kk : Nat} {x : Int32} (hq : S.1 7 = nI q) (h : q ≤ 16) (hk : kk ≤ q) (hx : ∀ i, i < q → (S.2 9 i = x ↔ i = kk)) : ∃ S', f_X0_remove S x = some S' ∧ (∀ k, S'.1 k = if k = 7 then nI (if kk < q then q - 1 else q) else S.1 k) ∧ (∀ i, i < (if kk < q then q - 1 else q) → S'.2 9 i = S.2 9 (if i < kk then i else i + 1)) ∧ ∀ j i, j ≠ 9 → S'.2 j i = S.2 j i := by
  unfold f_X0_remove
  rw [li_0]
  have H := lpI (σ := Int32 × Mem) (fun n i a => f_X0_remove_L4 x (fun y S_6 => some (wrI S_6 7 y)) n a.1 i a.2) (fun a => some (wrI a.2 7 a.1)) (fun i a => a.1 = nI (if kk < i then i - 1 else i) ∧ a.2.1 = S.1 ∧ (∀ y, a.2.2 9 y = S.2 9 (if kk ≤ y ∧ y + 1 < i then y + 1 else y)) ∧ ∀ j y, j ≠ 9 → a.2.2 j y = S.2 j y) q ?_ ?_ q 40 0 (nI 0, S) (by omega) (by omega) ⟨by rw [if_neg (by omega)], rfl, fun y => by rw [if_neg (by omega)], fun j y _ => rfl⟩
  · obtain ⟨a, ⟨h0, h1, h2, h3⟩, h4⟩ := H
    refine ⟨_, h4, fun k => ?_, fun i hi => ?_, fun j i hj => ?_⟩
    · rw [wrI_1, h0, h1]
    · rw [wrI_2, h2 i]
      by_cases e : i < kk
      · rw [if_neg (by omega), if_pos e]
      · by_cases g : kk < q
        · rw [if_pos g] at hi
          rw [if_pos (by omega), if_neg e]
        · rw [if_neg g] at hi
          omega
    · rw [wrI_2, h3 j i hj]
  · intro n a ⟨_, a1, _⟩
    have hca : a.2.1 7 = nI q := by rw [a1, hq]
    simp (disch := omega) only [f_X0_remove_L4, hca, nI_leI, nI_ltI, nI_eq, nI_add, pk_mul, pk_sub, nI_clamp, ib_nI, if_pos, if_neg, if_true, if_false, eq_self, ob]
  · intro n i a hi ⟨a0, a1, a2, a3⟩
    obtain ⟨y0, A⟩ := a
    simp only at a0 a1 a2 a3
    subst a0
    have hca : A.1 7 = nI q := by rw [a1, hq]
    have hv : A.2 9 i = S.2 9 i := by rw [a2 i, if_neg (by omega)]
    by_cases e : i = kk
    · have ex : A.2 9 i = x := by rw [hv]; exact (hx i hi).mpr e
      refine ⟨(nI i, A), ⟨?_, a1, fun y => ?_, a3⟩, ?_⟩
      · simp only
        rw [if_pos (by omega)]
        rfl
      · simp only
        rw [a2 y]
        by_cases g : kk ≤ y ∧ y + 1 < i
        · rw [if_pos g, if_pos (by omega)]
        · rw [if_neg g, if_neg (by omega)]
      · simp (disch := omega) only [f_X0_remove_L4, hca, ex, li_1, nI_leI, nI_ltI, nI_eq, nI_add, pk_mul, pk_sub, nI_clamp, ib_nI, if_pos, if_neg, if_true, if_false, eq_self, ob]
    · have ex : ¬ A.2 9 i = x := by rw [hv]; exact fun g => e ((hx i hi).mp g)
      by_cases g : kk < i
      · refine ⟨(nI i, wrA A 9 (nI (i - 1)) (A.2 9 i)), ⟨?_, a1, fun y => ?_, fun j y hj => ?_⟩, ?_⟩
        · simp only
          rw [if_pos (by omega)]
          rfl
        · simp (disch := omega) only [wr_at]
          rw [hv]
          by_cases f : y = i - 1
          · rw [if_pos ⟨trivial, f⟩, if_pos (by omega)]
            rw [f, show i - 1 + 1 = i by omega]
          · rw [if_neg (fun g => f g.2), a2 y]
            by_cases g2 : kk ≤ y ∧ y + 1 < i
            · rw [if_pos g2, if_pos (by omega)]
            · rw [if_neg g2, if_neg (by omega)]
        · simp (disch := omega) only [wr_at]
          rw [if_neg (fun g => hj g.1), a3 j y hj]
        · have e1 : nI (i - 1) + 1 = nI i := by rw [li_1, nI_add, show i - 1 + 1 = i by omega]
          simp (disch := omega) only [f_X0_remove_L4, hca, ex, e1, nI_leI, nI_ltI, nI_eq, nI_add, pk_mul, pk_sub, nI_clamp, ib_nI, if_pos, if_neg, if_true, if_false, eq_self, ob]
          rw [li_1, nI_add]
      · refine ⟨(nI (i + 1), wrA A 9 (nI i) (A.2 9 i)), ⟨?_, a1, fun y => ?_, fun j y hj => ?_⟩, ?_⟩
        · simp only
          rw [if_neg (by omega)]
        · simp (disch := omega) only [wr_at]
          rw [hv]
          by_cases f : y = i
          · rw [if_pos ⟨trivial, f⟩, if_neg (by omega), f]
          · rw [if_neg (fun g => f g.2), a2 y]
            by_cases g2 : kk ≤ y ∧ y + 1 < i
            · rw [if_pos g2, if_pos (by omega)]
            · rw [if_neg g2, if_neg (by omega)]
        · simp (disch := omega) only [wr_at]
          rw [if_neg (fun g => hj g.1), a3 j y hj]
        · simp (disch := omega) only [f_X0_remove_L4, hca, ex, li_1, nI_leI, nI_ltI, nI_eq, nI_add, pk_mul, pk_sub, nI_clamp, ib_nI, if_pos, if_neg, if_true, if_false, eq_self, ob]
theorem m_unq (M : Mem) {q k : Nat} (hq : M.2 0 7 = nI q) (h : q ≤ 16) (hk : k < q) : ∃ M', f_X7_unqueues M (nI k) = some M' ∧ M'.1 = M.1 ∧ (∀ j y, j ≠ 0 → M'.2 j y = M.2 j y) ∧ M'.2 0 7 = nI (q - 1) ∧ (∀ y, y < 132 → y ≠ 7 → M'.2 0 y = M.2 0 y) ∧ ∀ i, i < q - 1 → M'.2 0 (132 + i) = M.2 0 (132 + if i < k then i else i + 1) := by
  unfold f_X7_unqueues
  simp (disch := omega) only [hq, li_0, li_1, li_2, li_3, li_4, li_5, li_6, li_7, li_8, li_9, li_10, li_11, li_12, li_16, li_20, li_23, li_24, li_30, li_32, li_35, li_37, li_40, li_42, li_46, li_48, li_53, li_57, li_58, li_59, li_60, li_63, li_64, li_65, li_97, li_99, li_100, li_101, li_120, li_126, li_132, li_148, li_300, li_999, li_1036, li_1184, li_9999, nn1, nI_leI, nI_ltI, nI_eq, nI_add, pk_mul, pk_sub, nI_clamp, ib_nI, if_pos, if_neg, if_true, if_false, eq_self, ob]
  have H := lpI (fun n i a => f_X7_unqueues_L13 (fun M_7 =>
    if ib (nI 132 + (M_7.2 0 7)) 148 = true then
    some (wrA M_7 0 (nI 132 + (M_7.2 0 7)) (nI 0))
    else none) n i a) (fun M_7 =>
    if ib (nI 132 + (M_7.2 0 7)) 148 = true then
    some (wrA M_7 0 (nI 132 + (M_7.2 0 7)) (nI 0))
    else none) (fun i a => a.1 = M.1 ∧ k ≤ i ∧ (∀ j y, j ≠ 0 → a.2 j y = M.2 j y) ∧ a.2 0 7 = nI (q - 1) ∧ (∀ y, y < 132 → y ≠ 7 → a.2 0 y = M.2 0 y) ∧ ∀ y, y < 16 → a.2 0 (132 + y) = M.2 0 (132 + if k ≤ y ∧ y < i then y + 1 else y)) (q - 1) ?_ ?_ (q - 1 - k) 40 k (wrA M 0 (nI 7) (nI (q - 1))) (by omega) (by omega) ⟨rfl, Nat.le_refl k, fun j y hj => ?_, ?_, fun y _ hy => ?_, fun y _ => ?_⟩
  · obtain ⟨a, ⟨h1, h0, h2, h3, h4, h5⟩, h6⟩ := H
    refine ⟨wrA a 0 (nI (132 + (q - 1))) (nI 0), ?_, h1, fun j y hj => ?_, ?_, fun y hy hy7 => ?_, fun i hi => ?_⟩
    · simp (disch := omega) only [h3, nI_leI, nI_ltI, nI_eq, nI_add, pk_mul, pk_sub, nI_clamp, ib_nI, if_pos, if_neg, if_true, if_false, eq_self, ob] at h6
      exact h6
    · rw [wr_at _ _ (by omega), if_neg (by omega), h2 j y hj]
    · rw [wr_at _ _ (by omega), if_neg (by omega), h3]
    · rw [wr_at _ _ (by omega), if_neg (by omega), h4 y hy hy7]
    · rw [wr_at _ _ (by omega), if_neg (by omega), h5 i (by omega)]
      by_cases e : i < k
      · rw [if_neg (by omega), if_pos e]
      · rw [if_pos (by omega), if_neg e]
  · intro n a ⟨a1, _, _, a3, _⟩
    simp (disch := omega) only [f_X7_unqueues_L13, a3, li_0, li_1, li_2, li_3, li_4, li_5, li_6, li_7, li_8, li_9, li_10, li_11, li_12, li_16, li_20, li_23, li_24, li_30, li_32, li_35, li_37, li_40, li_42, li_46, li_48, li_53, li_57, li_58, li_59, li_60, li_63, li_64, li_65, li_97, li_99, li_100, li_101, li_120, li_126, li_132, li_148, li_300, li_999, li_1036, li_1184, li_9999, nn1, nI_leI, nI_ltI, nI_eq, nI_add, pk_mul, pk_sub, nI_clamp, ib_nI, if_pos, if_neg, if_true, if_false, eq_self, ob]
  · intro n i a hi ⟨a1, a0, a2, a3, a4, a5⟩
    refine ⟨wrA a 0 (nI (132 + i)) (a.2 0 (132 + i + 1)), ⟨a1, by omega, fun j y hj => ?_, ?_, fun y hy hy7 => ?_, fun y hy => ?_⟩, ?_⟩
    · rw [wr_at _ _ (by omega), if_neg (by omega), a2 j y hj]
    · rw [wr_at _ _ (by omega), if_neg (by omega), a3]
    · rw [wr_at _ _ (by omega), if_neg (by omega), a4 y hy hy7]
    · rw [wr_at _ _ (by omega)]
      by_cases e : y = i
      · rw [if_pos (by omega), if_pos (by omega), e, Nat.add_assoc, a5 (i + 1) (by omega), if_neg (by omega)]
      · rw [if_neg (by omega), a5 y hy]
        by_cases g : k ≤ y ∧ y < i
        · rw [if_pos g, if_pos (by omega)]
        · rw [if_neg g, if_neg (by omega)]
    · simp (disch := omega) only [f_X7_unqueues_L13, a3, li_0, li_1, li_2, li_3, li_4, li_5, li_6, li_7, li_8, li_9, li_10, li_11, li_12, li_16, li_20, li_23, li_24, li_30, li_32, li_35, li_37, li_40, li_42, li_46, li_48, li_53, li_57, li_58, li_59, li_60, li_63, li_64, li_65, li_97, li_99, li_100, li_101, li_120, li_126, li_132, li_148, li_300, li_999, li_1036, li_1184, li_9999, nn1, nI_leI, nI_ltI, nI_eq, nI_add, pk_mul, pk_sub, nI_clamp, ib_nI, if_pos, if_neg, if_true, if_false, eq_self, ob]
  · rw [wr_at _ _ (by omega), if_neg (by omega)]
  · rw [wr_at _ _ (by omega), if_pos (by omega)]
  · rw [wr_at _ _ (by omega), if_neg (by omega)]
  · rw [wr_at _ _ (by omega), if_neg (by omega), if_neg (by omega)]
