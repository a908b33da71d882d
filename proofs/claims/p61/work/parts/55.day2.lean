/-! .. the model's spreading; both; the lots that leave on a day -/
theorem m_spread {S M : Mem} {D : Nat → Prop} {c t q : Nat} (R : Rel S (M.2 0) c t q) (L : LotsOK S c) (hW : ∀ b, b < 24 → (D b → M.2 8 b = 1) ∧ (¬ D b → M.2 8 b = 0)) (k : Mem → Option (Int32 × Mem)) :
    ∃ M', f_X7_oneDay_L59 k 40 0 M = k M' ∧ M'.1 = M.1 ∧ (∀ j y, j ≠ 0 → M'.2 j y = M.2 j y) ∧ ∀ S', Spr S S' D c → Rel S' (M'.2 0) c t q := by
  have hc := R.c
  have ht := R.t
  have hq := R.q
  rw [li_0]
  have H := lpI (fun n i a => f_X7_oneDay_L59 k n i a) k (fun i a => a.1 = M.1 ∧ (∀ j y, j ≠ 0 → a.2 j y = M.2 j y) ∧ (∀ y, (∀ p, p < i → y ≠ 8 + 7 * p + 6) → a.2 0 y = M.2 0 y) ∧ ∀ p, p < i → ∀ b, S.2 4 p = nI b → b < 24 → (S.2 5 p = 0 ∧ Risk D b → a.2 0 (8 + 7 * p + 6) = 1) ∧ (¬ (S.2 5 p = 0 ∧ Risk D b) → a.2 0 (8 + 7 * p + 6) = S.2 6 p)) c ?_ ?_ c 40 0 M (by omega) (by omega) ⟨rfl, fun _ _ _ => rfl, fun _ _ => rfl, fun p hp => absurd hp (by omega)⟩
  · obtain ⟨M', ⟨h1, h2, h3, h4⟩, h5⟩ := H
    refine ⟨M', h5, h1, h2, fun S' ⟨s1, s2, s3⟩ => ?_⟩
    obtain ⟨⟨r1, r2, r3, r4⟩, ⟨b1, b2, b3⟩, ⟨c1, c2, c3⟩, ⟨d1, d2, d3, d4⟩, g1, g2, g3⟩ := R
    have z : ∀ y, y < 8 ∨ 120 ≤ y → M'.2 0 y = M.2 0 y := fun y hy => h3 y (fun p hp => by omega)
    rw [← s1] at r1 r2 b1 c1 d1 d2 d3 d4
    refine ⟨⟨by rw [z 0 (by omega), r1], r2, by rw [z 1 (by omega), r3], r4⟩, ⟨b1, by rw [z 2 (by omega), b2], b3⟩, ⟨c1, by rw [z 7 (by omega), c2], c3⟩, ⟨by rw [z 3 (by omega), d1], by rw [z 4 (by omega), d2], by rw [z 5 (by omega), d3], by rw [z 6 (by omega), d4]⟩, fun p hp j hj => ?_, fun k hk => ⟨by rw [z _ (by omega), s2 7 k (by omega), (g2 k hk).1], by rw [z _ (by omega), s2 8 k (by omega), (g2 k hk).2]⟩, fun k hk => by rw [z _ (by omega), s2 9 k (by omega), g3 k hk]⟩
    by_cases e : j = 6
    · subst e
      obtain ⟨b, _, hb, eb⟩ := (L.1 p hp).2.2.2.1
      obtain ⟨u1, u2⟩ := h4 p hp b eb (by omega)
      obtain ⟨v1, v2⟩ := s3 p hp b eb (by omega)
      by_cases r : S.2 5 p = 0 ∧ Risk D b
      · rw [u1 r, v1 r]
      · rw [u2 r, v2 r]
    · rw [h3 _ (fun p' hp' => by omega), s2 j p (by omega), g1 p hp j hj]
  · intro n a ⟨a1, a2, a3, a4⟩
    have hca : a.2 0 1 = nI c := by rw [a3 1 (fun p _ => by omega), R.c2]
    simp (disch := omega) only [f_X7_oneDay_L59, hca, li_0, li_1, li_2, li_3, li_4, li_5, li_6, li_7, li_8, li_9, li_10, li_11, li_12, li_16, li_20, li_23, li_24, li_30, li_32, li_35, li_37, li_40, li_42, li_46, li_48, li_53, li_57, li_58, li_59, li_60, li_63, li_64, li_65, li_97, li_99, li_100, li_101, li_120, li_126, li_132, li_148, li_300, li_999, li_1036, li_1184, li_9999, nn1, nI_leI, nI_ltI, nI_eq, nI_add, pk_mul, pk_sub, nI_clamp, ib_nI, if_pos, if_neg, if_true, if_false, eq_self, ob]
  · intro n i a hi ⟨a1, a2, a3, a4⟩
    have hca : a.2 0 1 = nI c := by rw [a3 1 (fun p _ => by omega), R.c2]
    obtain ⟨b, _, hb, eb⟩ := (L.1 i hi).2.2.2.1
    have o4 : f_X7_of a (nI i) (nI 4) = some (nI b) := by rw [m_of a (by omega), a3 _ (fun p _ => by omega), R.at hi (by omega), eb]
    have o5 : f_X7_of a (nI i) (nI 5) = some (S.2 5 i) := by rw [m_of a (by omega), a3 _ (fun p _ => by omega), R.at hi (by omega)]
    have m6 : a.2 0 (8 + 7 * i + 6) = S.2 6 i := by rw [a3 _ (fun p _ => by omega), R.at hi (by omega)]
    have os : f_X7_sets a (nI i) (nI 6) (nI 1) = some (wrA a 0 (nI (8 + 7 * i + 6)) (nI 1)) := m_sets a (nI 1) (by omega)
    have wx : ∀ x, x < 24 → (D x → a.2 8 x = nI 1) ∧ (¬ D x → a.2 8 x = nI 0) := fun x hx => ⟨fun h => by rw [a2 8 x (by omega)]; exact (hW x hx).1 h, fun h => by rw [a2 8 x (by omega)]; exact (hW x hx).2 h⟩
    have same : ¬ (S.2 5 i = 0 ∧ Risk D b) → a.1 = M.1 ∧ (∀ j y, j ≠ 0 → a.2 j y = M.2 j y) ∧ (∀ y, (∀ p, p < i + 1 → y ≠ 8 + 7 * p + 6) → a.2 0 y = M.2 0 y) ∧ ∀ p, p < i + 1 → ∀ b, S.2 4 p = nI b → b < 24 → (S.2 5 p = 0 ∧ Risk D b → a.2 0 (8 + 7 * p + 6) = 1) ∧ (¬ (S.2 5 p = 0 ∧ Risk D b) → a.2 0 (8 + 7 * p + 6) = S.2 6 p) := by
      intro r
      refine ⟨a1, a2, fun y hy => a3 y (fun p hp => hy p (by omega)), fun p hp b' eb' hb' => ?_⟩
      by_cases e : p = i
      · subst e
        have : b' = b := by
          have := eb'.symm.trans eb
          rw [nI_eq (by omega) (by omega)] at this
          exact this
        subst this
        exact ⟨fun g => absurd g r, fun _ => m6⟩
      · exact a4 p (by omega) b' eb' hb'
    have sett : (S.2 5 i = 0 ∧ Risk D b) → (wrA a 0 (nI (8 + 7 * i + 6)) (nI 1)).1 = M.1 ∧ (∀ j y, j ≠ 0 → (wrA a 0 (nI (8 + 7 * i + 6)) (nI 1)).2 j y = M.2 j y) ∧ (∀ y, (∀ p, p < i + 1 → y ≠ 8 + 7 * p + 6) → (wrA a 0 (nI (8 + 7 * i + 6)) (nI 1)).2 0 y = M.2 0 y) ∧ ∀ p, p < i + 1 → ∀ b, S.2 4 p = nI b → b < 24 → (S.2 5 p = 0 ∧ Risk D b → (wrA a 0 (nI (8 + 7 * i + 6)) (nI 1)).2 0 (8 + 7 * p + 6) = 1) ∧ (¬ (S.2 5 p = 0 ∧ Risk D b) → (wrA a 0 (nI (8 + 7 * i + 6)) (nI 1)).2 0 (8 + 7 * p + 6) = S.2 6 p) := by
      intro r
      refine ⟨a1, fun j y hj => by rw [wr_same _ _ _ _ _ _ hj, a2 j y hj], fun y hy => ?_, fun p hp b' eb' hb' => ?_⟩
      · rw [wr_at _ _ (by omega), if_neg (fun h => hy i (by omega) h.2), a3 y (fun p hp => hy p (by omega))]
      · rw [wr_at _ _ (by omega)]
        by_cases e : p = i
        · subst e
          have : b' = b := by
            have := eb'.symm.trans eb
            rw [nI_eq (by omega) (by omega)] at this
            exact this
          subst this
          rw [if_pos ⟨rfl, rfl⟩]
          exact ⟨fun _ => rfl, fun g => absurd r g⟩
        · rw [if_neg (by omega)]
          exact a4 p (by omega) b' eb' hb'
    have n01' : ¬ (nI 0 = nI 1) := by decide
    rcases (L.1 i hi).2.2.2.2.1 with g | g
    · have g' : S.2 5 i = nI 0 := g
      rw [g'] at o5
      by_cases b0 : b = 0
      · by_cases d1 : D (b + 1)
        · refine ⟨_, sett ⟨g, Or.inr ⟨by omega, d1⟩⟩, ?_⟩
          have w := (wx (b + 1) (by omega)).1 d1
          simp (disch := omega) only [f_X7_oneDay_L59, hca, o4, o5, os, w, li_0, li_1, li_2, li_3, li_4, li_5, li_6, li_7, li_8, li_9, li_10, li_11, li_12, li_16, li_20, li_23, li_24, li_30, li_32, li_35, li_37, li_40, li_42, li_46, li_48, li_53, li_57, li_58, li_59, li_60, li_63, li_64, li_65, li_97, li_99, li_100, li_101, li_120, li_126, li_132, li_148, li_300, li_999, li_1036, li_1184, li_9999, nn1, nI_leI, nI_ltI, nI_eq, nI_add, pk_mul, pk_sub, nI_clamp, ib_nI, if_pos, if_neg, if_true, if_false, eq_self, ob]
        · refine ⟨a, same (fun h => ?_), ?_⟩
          · rcases h.2 with h | h
            · omega
            · exact d1 h.2
          · have w := (wx (b + 1) (by omega)).2 d1
            simp (disch := omega) only [f_X7_oneDay_L59, hca, o4, o5, os, w, n01', li_0, li_1, li_2, li_3, li_4, li_5, li_6, li_7, li_8, li_9, li_10, li_11, li_12, li_16, li_20, li_23, li_24, li_30, li_32, li_35, li_37, li_40, li_42, li_46, li_48, li_53, li_57, li_58, li_59, li_60, li_63, li_64, li_65, li_97, li_99, li_100, li_101, li_120, li_126, li_132, li_148, li_300, li_999, li_1036, li_1184, li_9999, nn1, nI_leI, nI_ltI, nI_eq, nI_add, pk_mul, pk_sub, nI_clamp, ib_nI, if_pos, if_neg, if_true, if_false, eq_self, ob]
      · by_cases d0 : D (b - 1)
        · refine ⟨_, sett ⟨g, Or.inl ⟨by omega, d0⟩⟩, ?_⟩
          have w := (wx (b - 1) (by omega)).1 d0
          simp (disch := omega) only [f_X7_oneDay_L59, hca, o4, o5, os, w, li_0, li_1, li_2, li_3, li_4, li_5, li_6, li_7, li_8, li_9, li_10, li_11, li_12, li_16, li_20, li_23, li_24, li_30, li_32, li_35, li_37, li_40, li_42, li_46, li_48, li_53, li_57, li_58, li_59, li_60, li_63, li_64, li_65, li_97, li_99, li_100, li_101, li_120, li_126, li_132, li_148, li_300, li_999, li_1036, li_1184, li_9999, nn1, nI_leI, nI_ltI, nI_eq, nI_add, pk_mul, pk_sub, nI_clamp, ib_nI, if_pos, if_neg, if_true, if_false, eq_self, ob]
        · have w0 := (wx (b - 1) (by omega)).2 d0
          by_cases b23 : b = 23
          · refine ⟨a, same (fun h => ?_), ?_⟩
            · rcases h.2 with h | h
              · exact d0 h.2
              · omega
            · simp (disch := omega) only [f_X7_oneDay_L59, hca, o4, o5, os, w0, n01', li_0, li_1, li_2, li_3, li_4, li_5, li_6, li_7, li_8, li_9, li_10, li_11, li_12, li_16, li_20, li_23, li_24, li_30, li_32, li_35, li_37, li_40, li_42, li_46, li_48, li_53, li_57, li_58, li_59, li_60, li_63, li_64, li_65, li_97, li_99, li_100, li_101, li_120, li_126, li_132, li_148, li_300, li_999, li_1036, li_1184, li_9999, nn1, nI_leI, nI_ltI, nI_eq, nI_add, pk_mul, pk_sub, nI_clamp, ib_nI, if_pos, if_neg, if_true, if_false, eq_self, ob]
          · by_cases d1 : D (b + 1)
            · refine ⟨_, sett ⟨g, Or.inr ⟨by omega, d1⟩⟩, ?_⟩
              have w := (wx (b + 1) (by omega)).1 d1
              simp (disch := omega) only [f_X7_oneDay_L59, hca, o4, o5, os, w0, w, n01', li_0, li_1, li_2, li_3, li_4, li_5, li_6, li_7, li_8, li_9, li_10, li_11, li_12, li_16, li_20, li_23, li_24, li_30, li_32, li_35, li_37, li_40, li_42, li_46, li_48, li_53, li_57, li_58, li_59, li_60, li_63, li_64, li_65, li_97, li_99, li_100, li_101, li_120, li_126, li_132, li_148, li_300, li_999, li_1036, li_1184, li_9999, nn1, nI_leI, nI_ltI, nI_eq, nI_add, pk_mul, pk_sub, nI_clamp, ib_nI, if_pos, if_neg, if_true, if_false, eq_self, ob]
            · refine ⟨a, same (fun h => ?_), ?_⟩
              · rcases h.2 with h | h
                · exact d0 h.2
                · exact d1 h.2
              · have w := (wx (b + 1) (by omega)).2 d1
                simp (disch := omega) only [f_X7_oneDay_L59, hca, o4, o5, os, w0, w, n01', li_0, li_1, li_2, li_3, li_4, li_5, li_6, li_7, li_8, li_9, li_10, li_11, li_12, li_16, li_20, li_23, li_24, li_30, li_32, li_35, li_37, li_40, li_42, li_46, li_48, li_53, li_57, li_58, li_59, li_60, li_63, li_64, li_65, li_97, li_99, li_100, li_101, li_120, li_126, li_132, li_148, li_300, li_999, li_1036, li_1184, li_9999, nn1, nI_leI, nI_ltI, nI_eq, nI_add, pk_mul, pk_sub, nI_clamp, ib_nI, if_pos, if_neg, if_true, if_false, eq_self, ob]
    · have g' : S.2 5 i = nI 1 := g
      rw [g'] at o5
      refine ⟨a, same (fun h => absurd (h.1.symm.trans g) (by decide)), ?_⟩
      have n10' : ¬ (nI 1 = nI 0) := by decide
      by_cases b0 : b = 0
      · simp (disch := omega) only [f_X7_oneDay_L59, hca, o4, o5, n10', ite_self, li_0, li_1, li_2, li_3, li_4, li_5, li_6, li_7, li_8, li_9, li_10, li_11, li_12, li_16, li_20, li_23, li_24, li_30, li_32, li_35, li_37, li_40, li_42, li_46, li_48, li_53, li_57, li_58, li_59, li_60, li_63, li_64, li_65, li_97, li_99, li_100, li_101, li_120, li_126, li_132, li_148, li_300, li_999, li_1036, li_1184, li_9999, nn1, nI_leI, nI_ltI, nI_eq, nI_add, pk_mul, pk_sub, nI_clamp, ib_nI, if_pos, if_neg, if_true, if_false, eq_self, ob]
      · by_cases b23 : b = 23
        · simp (disch := omega) only [f_X7_oneDay_L59, hca, o4, o5, n10', ite_self, li_0, li_1, li_2, li_3, li_4, li_5, li_6, li_7, li_8, li_9, li_10, li_11, li_12, li_16, li_20, li_23, li_24, li_30, li_32, li_35, li_37, li_40, li_42, li_46, li_48, li_53, li_57, li_58, li_59, li_60, li_63, li_64, li_65, li_97, li_99, li_100, li_101, li_120, li_126, li_132, li_148, li_300, li_999, li_1036, li_1184, li_9999, nn1, nI_leI, nI_ltI, nI_eq, nI_add, pk_mul, pk_sub, nI_clamp, ib_nI, if_pos, if_neg, if_true, if_false, eq_self, ob]
        · simp (disch := omega) only [f_X7_oneDay_L59, hca, o4, o5, n10', ite_self, li_0, li_1, li_2, li_3, li_4, li_5, li_6, li_7, li_8, li_9, li_10, li_11, li_12, li_16, li_20, li_23, li_24, li_30, li_32, li_35, li_37, li_40, li_42, li_46, li_48, li_53, li_57, li_58, li_59, li_60, li_63, li_64, li_65, li_97, li_99, li_100, li_101, li_120, li_126, li_132, li_148, li_300, li_999, li_1036, li_1184, li_9999, nn1, nI_leI, nI_ltI, nI_eq, nI_add, pk_mul, pk_sub, nI_clamp, ib_nI, if_pos, if_neg, if_true, if_false, eq_self, ob]
theorem lv_c {S : Mem} {c q p : Nat} (c1 : S.1 0 = nI c) (hc : c ≤ 16) (q1 : S.1 7 = nI q) (hq : q ≤ 16) (Q : QueOK S c q) (hp : p < c) (L : ∀ p', p < p' → p' < c → lotOK S p') : ∃ S', f_X4_letLeave S (nI p) = some S' ∧ Left S S' c q p := by
  obtain ⟨w1, w2, w3⟩ := wpl_spec Q (S.2 0 p)
  obtain ⟨S1, e1, a1, a2, a3⟩ := c_removeQue S q1 hq w1 w2
  have L1 : ∀ p', p < p' → p' < c → lotOK S1 p' := fun p' g1 g2 => (L p' g1 g2).same (fun j hj => a3 j p' (by omega))
  obtain ⟨S2, e2, b1, b2, b3⟩ := c_removeLot S1 (c := c) (p := p) (by rw [a1, if_neg (by omega), c1]) hc hp L1
  refine ⟨S2, by simp (disch := omega) only [f_X4_letLeave, e1, e2, nI_leI, nI_ltI, nI_eq, nI_add, pk_mul, pk_sub, nI_clamp, ib_nI, if_pos, if_neg, if_true, if_false, eq_self, ob], fun k => ?_, fun j i hi hj => ?_, fun j k hj => ?_, fun i hi => ?_⟩
  · rw [b1]
    by_cases e : k = 0
    · rw [if_pos e, if_pos e]
    · rw [if_neg e, if_neg e, a1]
  · rw [b2 j i hi hj, a3 j _ (by omega)]
  · rw [b3 j k (by omega), a3 j k (by omega)]
  · rw [b3 9 i (by omega), a2 i hi]
/-- a leaving, whatever the number 6 of the class' state is -/
theorem lv6 {S M : Mem} {c t q p : Nat} {v : Int32} (R : Rel (wrI S 6 v) (M.2 0) c t q) (Q : QueOK S c q) (hp : p < c) (L : ∀ p', p < p' → p' < c → lotOK S p') :
    ∃ S' M', f_X4_letLeave S (nI p) = some S' ∧ f_X7_leaves M (nI p) = some M' ∧ Left S S' c q p ∧ Rel (wrI S' 6 v) (M'.2 0) (c - 1) t (if wpl S q (S.2 0 p) < q then q - 1 else q) ∧ M'.1 = M.1 ∧ ∀ j y, j ≠ 0 → M'.2 j y = M.2 j y := by
  obtain ⟨S', e1, HL⟩ := lv_c (S := S) (c := c) (q := q) (p := p) R.c1 R.c R.q1 R.q Q hp L
  obtain ⟨T', M', f1, f2, f3, f4, f5, f6⟩ := lv_both R Q hp L
  refine ⟨S', M', e1, f2, HL, ?_, f5, f6⟩
  refine Rel.same (T := T') ⟨fun k hk => ?_, fun j p' hp' hj => ?_, fun j k hk hj => ?_, fun k hk => ?_⟩ f4
  · rw [f3.1, wrI_1]
    by_cases e : k = 6
    · subst e
      rfl
    · rw [if_neg e, HL.1]
      by_cases e0 : k = 0
      · rw [if_pos e0, if_pos e0]
      · rw [if_neg e0, if_neg e0]
        by_cases e7 : k = 7
        · rw [if_pos e7, if_pos e7]
          rfl
        · rw [if_neg e7, if_neg e7, wrI_1, if_neg e]
  · rw [f3.2.1 j p' hp' hj, wrI_2, HL.2.1 j p' hp' hj]
    rfl
  · rw [f3.2.2.1 j k hj, wrI_2, HL.2.2.1 j k hj]
    rfl
  · rw [f3.2.2.2 k hk, wrI_2, HL.2.2.2 k hk]
    rfl
