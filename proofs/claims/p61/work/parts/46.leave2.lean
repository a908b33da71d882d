/-! .. of the model; both -/
theorem m_tail (M : Mem) {c p : Nat} (h : c ≤ 16) (hp : p < c) : ∃ M', f_X7_leaves_L36 (nI (c - 1)) (fun M_10 => f_X7_leaves_L77 (nI (c - 1)) (fun M_13 => some (wrA M_13 0 (nI 1) (nI (c - 1)))) 1200 (nI 0) M_10) 1200 (nI (7 * p)) M = some M' ∧ M'.1 = M.1 ∧ (∀ j y, j ≠ 0 → M'.2 j y = M.2 j y) ∧ M'.2 0 1 = nI (c - 1) ∧ (∀ i j, i < c - 1 → j < 7 → M'.2 0 (8 + 7 * i + j) = M.2 0 (8 + 7 * (if i < p then i else i + 1) + j)) ∧ ∀ y, y ≠ 1 → (y < 8 ∨ 120 ≤ y) → M'.2 0 y = M.2 0 y := by
  have H := lpI (fun n i a => f_X7_leaves_L36 (nI (c - 1)) (fun M_10 => f_X7_leaves_L77 (nI (c - 1)) (fun M_13 => some (wrA M_13 0 (nI 1) (nI (c - 1)))) 1200 (nI 0) M_10) n i a) (fun M_10 => f_X7_leaves_L77 (nI (c - 1)) (fun M_13 => some (wrA M_13 0 (nI 1) (nI (c - 1)))) 1200 (nI 0) M_10) (fun i a => a.1 = M.1 ∧ 7 * p ≤ i ∧ (∀ j y, j ≠ 0 → a.2 j y = M.2 j y) ∧ ∀ y, a.2 0 y = M.2 0 (if 8 + 7 * p ≤ y ∧ y < 8 + i then y + 7 else y)) (7 * (c - 1)) ?_ ?_ (7 * (c - 1) - 7 * p) 1200 (7 * p) M (by omega) (by omega) ⟨rfl, by omega, fun j y _ => rfl, fun y => by rw [if_neg (by omega)]⟩
  · obtain ⟨a, ⟨h1, h0, h2, h3⟩, h4⟩ := H
    have H2 := lpI (fun n i a => f_X7_leaves_L77 (nI (c - 1)) (fun M_13 => some (wrA M_13 0 (nI 1) (nI (c - 1)))) n i a) (fun M_13 => some (wrA M_13 0 (nI 1) (nI (c - 1)))) (fun i b => b.1 = a.1 ∧ (∀ j y, j ≠ 0 → b.2 j y = a.2 j y) ∧ ∀ y, y < 8 + 7 * (c - 1) ∨ 120 ≤ y → b.2 0 y = a.2 0 y) 7 ?_ ?_ 7 1200 0 a (by omega) (by omega) ⟨rfl, fun j y _ => rfl, fun y _ => rfl⟩
    · obtain ⟨b, ⟨g1, g2, g3⟩, g4⟩ := H2
      refine ⟨_, h4.trans g4, by rw [wrA_1, g1, h1], fun j y hj => ?_, ?_, fun i j hi hj => ?_, fun y hy hy2 => ?_⟩
      · rw [wr_at _ _ (by omega), if_neg (by omega), g2 j y hj, h2 j y hj]
      · rw [wr_at _ _ (by omega), if_pos (by omega)]
      · rw [wr_at _ _ (by omega), if_neg (by omega), g3 _ (by omega), h3]
        by_cases e : i < p
        · rw [if_pos e, if_neg (by omega)]
        · rw [if_neg e, if_pos (by omega), show 8 + 7 * i + j + 7 = 8 + 7 * (i + 1) + j by omega]
      · rw [wr_at _ _ (by omega), if_neg (by omega), g3 _ (by omega), h3, if_neg (by omega)]
    · intro n b _
      simp (disch := omega) only [f_X7_leaves_L77, li_0, li_1, li_2, li_3, li_4, li_5, li_6, li_7, li_8, li_9, li_10, li_11, li_12, li_16, li_20, li_23, li_24, li_30, li_32, li_35, li_37, li_40, li_42, li_46, li_48, li_53, li_57, li_58, li_59, li_60, li_63, li_64, li_65, li_97, li_99, li_100, li_101, li_120, li_126, li_132, li_148, li_300, li_999, li_1036, li_1184, li_9999, nn1, nI_leI, nI_ltI, nI_eq, nI_add, pk_mul, pk_sub, nI_clamp, ib_nI, if_pos, if_neg, if_true, if_false, eq_self, ob]
    · intro n i b hi ⟨b1, b2, b3⟩
      refine ⟨wrA b 0 (nI (8 + 7 * (c - 1) + i)) (nI 0), ⟨b1, fun j y hj => ?_, fun y hy => ?_⟩, ?_⟩
      · rw [wr_at _ _ (by omega), if_neg (by omega), b2 j y hj]
      · rw [wr_at _ _ (by omega), if_neg (by omega), b3 y hy]
      · simp (disch := omega) only [f_X7_leaves_L77, li_0, li_1, li_2, li_3, li_4, li_5, li_6, li_7, li_8, li_9, li_10, li_11, li_12, li_16, li_20, li_23, li_24, li_30, li_32, li_35, li_37, li_40, li_42, li_46, li_48, li_53, li_57, li_58, li_59, li_60, li_63, li_64, li_65, li_97, li_99, li_100, li_101, li_120, li_126, li_132, li_148, li_300, li_999, li_1036, li_1184, li_9999, nn1, nI_leI, nI_ltI, nI_eq, nI_add, pk_mul, pk_sub, nI_clamp, ib_nI, if_pos, if_neg, if_true, if_false, eq_self, ob]
  · intro n a _
    simp (disch := omega) only [f_X7_leaves_L36, li_0, li_1, li_2, li_3, li_4, li_5, li_6, li_7, li_8, li_9, li_10, li_11, li_12, li_16, li_20, li_23, li_24, li_30, li_32, li_35, li_37, li_40, li_42, li_46, li_48, li_53, li_57, li_58, li_59, li_60, li_63, li_64, li_65, li_97, li_99, li_100, li_101, li_120, li_126, li_132, li_148, li_300, li_999, li_1036, li_1184, li_9999, nn1, nI_leI, nI_ltI, nI_eq, nI_add, pk_mul, pk_sub, nI_clamp, ib_nI, if_pos, if_neg, if_true, if_false, eq_self, ob]
  · intro n i a hi ⟨a1, a0, a2, a3⟩
    refine ⟨wrA a 0 (nI (8 + i)) (a.2 0 (8 + i + 7)), ⟨a1, by omega, fun j y hj => ?_, fun y => ?_⟩, ?_⟩
    · rw [wr_at _ _ (by omega), if_neg (by omega), a2 j y hj]
    · rw [wr_at _ _ (by omega)]
      by_cases e : y = 8 + i
      · rw [if_pos (by omega), if_pos (by omega), a3, if_neg (by omega), e]
      · rw [if_neg (by omega), a3]
        by_cases g : 8 + 7 * p ≤ y ∧ y < 8 + i
        · rw [if_pos g, if_pos (by omega)]
        · rw [if_neg g, if_neg (by omega)]
    · simp (disch := omega) only [f_X7_leaves_L36, li_0, li_1, li_2, li_3, li_4, li_5, li_6, li_7, li_8, li_9, li_10, li_11, li_12, li_16, li_20, li_23, li_24, li_30, li_32, li_35, li_37, li_40, li_42, li_46, li_48, li_53, li_57, li_58, li_59, li_60, li_63, li_64, li_65, li_97, li_99, li_100, li_101, li_120, li_126, li_132, li_148, li_300, li_999, li_1036, li_1184, li_9999, nn1, nI_leI, nI_ltI, nI_eq, nI_add, pk_mul, pk_sub, nI_clamp, ib_nI, if_pos, if_neg, if_true, if_false, eq_self, ob]
/-- where a lot's id waits in the queue: the place, or q -/
def wpl (S : Mem) (q : Nat) (x : Int32) : Nat := fk (quc S q x) q id
theorem wpl_spec {S : Mem} {c q : Nat} (Q : QueOK S c q) (x : Int32) : wpl S q x ≤ q ∧ (∀ i, i < q → (S.2 9 i = x ↔ i = wpl S q x)) ∧ (quc S q x = if wpl S q x < q then some (wpl S q x) else none) := by
  unfold wpl
  rcases fnd_at (g := S.2 9) (x := x) (c := q) with ⟨h1, h2⟩ | ⟨p, h1, h2, h3, h4⟩
  · rw [show quc S q x = none from h1, fk_n]
    refine ⟨Nat.le_refl q, fun i hi => ⟨fun e => absurd e (h2 i hi), fun e => by omega⟩, by rw [if_neg (by omega)]⟩
  · rw [show quc S q x = some p from h1, fk_s]
    refine ⟨by simp only [id]; omega, fun i hi => ⟨fun e => Q.2 i p hi h2 (by rw [e, h3]), fun e => by rw [e]; exact h3⟩, by simp only [id]; rw [if_pos h2]⟩
/-- the frame of the model's own changes: but the row 0, the answer and the row 8 nothing is changed -/
def Fm (M M' : Mem) : Prop := (∀ k, k ≠ 7 → M'.1 k = M.1 k) ∧ ∀ j y, j ≠ 0 → j ≠ 8 → M'.2 j y = M.2 j y
theorem Fm.rf (M : Mem) : Fm M M := ⟨fun _ _ => rfl, fun _ _ _ _ => rfl⟩
theorem Fm.tr {M M1 M2 : Mem} (h : Fm M M1) (g : Fm M1 M2) : Fm M M2 := ⟨fun k hk => (g.1 k hk).trans (h.1 k hk), fun j y a b => (g.2 j y a b).trans (h.2 j y a b)⟩
/-- what a leaving does to the class' state -/
def Left (S S' : Mem) (c q p : Nat) : Prop :=
  (∀ k, S'.1 k = if k = 0 then nI (c - 1) else if k = 7 then nI (if wpl S q (S.2 0 p) < q then q - 1 else q) else S.1 k) ∧
  (∀ j i, i < c - 1 → j < 7 → S'.2 j i = S.2 j (if i < p then i else i + 1)) ∧ (∀ j k, (j = 7 ∨ j = 8) → S'.2 j k = S.2 j k) ∧
  ∀ i, i < (if wpl S q (S.2 0 p) < q then q - 1 else q) → S'.2 9 i = S.2 9 (if i < wpl S q (S.2 0 p) then i else i + 1)
theorem lv_both {S M : Mem} {c t q p : Nat} (R : Rel S (M.2 0) c t q) (Q : QueOK S c q) (hp : p < c) (L : ∀ p', p < p' → p' < c → lotOK S p') :
    ∃ S' M', f_X4_letLeave S (nI p) = some S' ∧ f_X7_leaves M (nI p) = some M' ∧ Left S S' c q p ∧ Rel S' (M'.2 0) (c - 1) t (if wpl S q (S.2 0 p) < q then q - 1 else q) ∧ M'.1 = M.1 ∧ ∀ j y, j ≠ 0 → M'.2 j y = M.2 j y := by
  obtain ⟨w1, w2, w3⟩ := wpl_spec Q (S.2 0 p)
  have hc := R.c
  have hq := R.q
  obtain ⟨S1, e1, a1, a2, a3⟩ := c_removeQue S R.q1 R.q w1 w2
  have L1 : ∀ p', p < p' → p' < c → lotOK S1 p' := fun p' g1 g2 => (L p' g1 g2).same (fun j hj => a3 j p' (by omega))
  obtain ⟨S2, e2, b1, b2, b3⟩ := c_removeLot S1 (c := c) (p := p) (by rw [a1, if_neg (by omega), R.c1]) R.c hp L1
  have HL : Left S S2 c q p := by
    refine ⟨fun k => ?_, fun j i hi hj => ?_, fun j k hj => ?_, fun i hi => ?_⟩
    · rw [b1]
      by_cases e : k = 0
      · rw [if_pos e, if_pos e]
      · rw [if_neg e, if_neg e, a1]
    · rw [b2 j i hi hj, a3 j _ (by omega)]
    · rw [b3 j k (by omega), a3 j k (by omega)]
    · rw [b3 9 i (by omega), a2 i hi]
  have fS : f_X4_letLeave S (nI p) = some S2 := by
    simp (disch := omega) only [f_X4_letLeave, e1, e2, nI_leI, nI_ltI, nI_eq, nI_add, pk_mul, pk_sub, nI_clamp, ib_nI, if_pos, if_neg, if_true, if_false, eq_self, ob]
  have ew : f_X7_waits M (S.2 0 p) = some (oi (quc S q (S.2 0 p))) := r_waits R _
  have eo : f_X7_of M (nI p) (nI 0) = some (S.2 0 p) := r_of R hp (by omega)
  -- the model, its queue first
  obtain ⟨M1, f1, g1, g2, g3, g4, g5⟩ : ∃ M1, (f_X7_leaves M (nI p) = f_X7_leaves_L36 (nI (c - 1)) (fun M_10 => f_X7_leaves_L77 (nI (c - 1)) (fun M_13 => some (wrA M_13 0 (nI 1) (nI (c - 1)))) 1200 (nI 0) M_10) 1200 (nI (7 * p)) M1) ∧ M1.1 = M.1 ∧ (∀ j y, j ≠ 0 → M1.2 j y = M.2 j y) ∧ M1.2 0 7 = nI (if wpl S q (S.2 0 p) < q then q - 1 else q) ∧ (∀ y, y < 132 → y ≠ 7 → M1.2 0 y = M.2 0 y) ∧ ∀ i, i < (if wpl S q (S.2 0 p) < q then q - 1 else q) → M1.2 0 (132 + i) = M.2 0 (132 + if i < wpl S q (S.2 0 p) then i else i + 1) := by
    by_cases e : wpl S q (S.2 0 p) < q
    · obtain ⟨M1, u1, u2, u3, u4, u5, u6⟩ := m_unq M R.q2 R.q e
      refine ⟨M1, ?_, u2, u3, by rw [if_pos e, u4], u5, fun i hi => u6 i (by rw [if_pos e] at hi; exact hi)⟩
      have hne : ¬ (nI (wpl S q (S.2 0 p)) = -1) := by
        intro h9
        have := congrArg Int32.toInt h9
        rw [nI_toInt (by omega)] at this
        simp at this
      have hc1 : M1.2 0 1 = nI c := by rw [u5 1 (by omega) (by omega), R.c2]
      simp (disch := omega) only [f_X7_leaves, li_0, eo, ew, w3, e, oi_s, hne, u1, hc1, li_0, li_1, li_2, li_3, li_4, li_5, li_6, li_7, li_8, li_9, li_10, li_11, li_12, li_16, li_20, li_23, li_24, li_30, li_32, li_35, li_37, li_40, li_42, li_46, li_48, li_53, li_57, li_58, li_59, li_60, li_63, li_64, li_65, li_97, li_99, li_100, li_101, li_120, li_126, li_132, li_148, li_300, li_999, li_1036, li_1184, li_9999, nn1, nI_leI, nI_ltI, nI_eq, nI_add, pk_mul, pk_sub, nI_clamp, ib_nI, if_pos, if_neg, if_true, if_false, eq_self, ob]
    · refine ⟨M, ?_, rfl, fun _ _ _ => rfl, by rw [if_neg e, R.q2], fun _ _ _ => rfl, fun i hi => ?_⟩
      · have hc1 := R.c2
        simp (disch := omega) only [f_X7_leaves, li_0, eo, ew, w3, e, oi_n, hc1, li_0, li_1, li_2, li_3, li_4, li_5, li_6, li_7, li_8, li_9, li_10, li_11, li_12, li_16, li_20, li_23, li_24, li_30, li_32, li_35, li_37, li_40, li_42, li_46, li_48, li_53, li_57, li_58, li_59, li_60, li_63, li_64, li_65, li_97, li_99, li_100, li_101, li_120, li_126, li_132, li_148, li_300, li_999, li_1036, li_1184, li_9999, nn1, nI_leI, nI_ltI, nI_eq, nI_add, pk_mul, pk_sub, nI_clamp, ib_nI, if_pos, if_neg, if_true, if_false, eq_self, ob]
      · rw [if_neg e] at hi
        rw [if_pos (by omega)]
  obtain ⟨M2, k1, k2, k3, k4, k5, k6⟩ := m_tail M1 R.c hp
  refine ⟨S2, M2, fS, f1.trans k1, HL, ?_, by rw [k2, g1], fun j y hj => by rw [k3 j y hj, g2 j y hj]⟩
  obtain ⟨l1, l2, l3, l4⟩ := HL
  obtain ⟨n3, n4, n5, n6⟩ := R.nums
  refine ⟨⟨?_, ?_, k4, by omega⟩, ⟨?_, ?_, R.t⟩, ⟨?_, ?_, ?_⟩, ⟨?_, ?_, ?_, ?_⟩, fun i hi j hj => ?_, fun k hk => ⟨?_, ?_⟩, fun k hk => ?_⟩
  · rw [k6 0 (by omega) (by omega), g4 0 (by omega) (by omega), R.nid, l1]
    rfl
  · rw [l1]
    rfl
  · rw [l1, ← R.t1]
    rfl
  · rw [k6 2 (by omega) (by omega), g4 2 (by omega) (by omega), R.t2]
  · rw [l1]
    rfl
  · rw [k6 7 (by omega) (by omega), g3]
  · split <;> omega
  · rw [k6 3 (by omega) (by omega), g4 3 (by omega) (by omega), n3, l1]
    rfl
  · rw [k6 4 (by omega) (by omega), g4 4 (by omega) (by omega), n4, l1]
    rfl
  · rw [k6 5 (by omega) (by omega), g4 5 (by omega) (by omega), n5, l1]
    rfl
  · rw [k6 6 (by omega) (by omega), g4 6 (by omega) (by omega), n6, l1]
    rfl
  · rw [k5 i j hi hj, l2 j i hi hj]
    have ht : (if i < p then i else i + 1) < c := by split <;> omega
    rw [g4 _ (by omega) (by omega), R.at ht hj]
  · have := R.t
    rw [k6 _ (by omega) (by omega), g4 _ (by omega) (by omega), R.th hk, l3 7 k (Or.inl rfl)]
  · have := R.t
    rw [k6 _ (by omega) (by omega), g4 _ (by omega) (by omega), R.ra hk, l3 8 k (Or.inr rfl)]
  · rw [k6 _ (by omega) (by omega), g5 k hk, l4 k hk]
    have ht : (if k < wpl S q (S.2 0 p) then k else k + 1) < q := by
      by_cases e : wpl S q (S.2 0 p) < q
      · rw [if_pos e] at hk
        split <;> omega
      · rw [if_neg e] at hk
        rw [if_pos (by omega)]
        exact hk
    rw [R.qu ht]
/-- what holds of the lots and the queue behind a leaving -/
theorem Left.ok {S S' : Mem} {c t q p : Nat} (h : Left S S' c q p) (hp : p < c) (hc : c ≤ 16) (hq : q ≤ 16) (L : ∀ p', p' < c → p' ≠ p → lotOK S p') (B : ∀ x y, x < c → y < c → S.2 4 x = S.2 4 y → x = y) (T : TrfOK S t) (Q : QueOK S c q) (C : inR (S.1 3) 0 9999) : Inv S' (c - 1) t (if wpl S q (S.2 0 p) < q then q - 1 else q) := by
  obtain ⟨l1, l2, l3, l4⟩ := h
  obtain ⟨w1, w2, w3⟩ := wpl_spec Q (S.2 0 p)
  have hm : ∀ i, i < c - 1 → (if i < p then i else i + 1) < c ∧ (if i < p then i else i + 1) ≠ p := by
    intro i hi
    split <;> omega
  refine ⟨⟨fun i hi => (L _ (hm i hi).1 (hm i hi).2).same (fun j hj => l2 j i hi hj), fun x y hx hy e => ?_⟩, T.same (by rw [l1]; rfl) (fun j k _ hj => l3 j k hj), ⟨fun k hk => ?_, fun x y hx hy e => ?_⟩, by rw [l1]; exact C⟩
  · rw [l2 4 x hx (by omega), l2 4 y hy (by omega)] at e
    have := B _ _ (hm x hx).1 (hm y hy).1 e
    split at this <;> split at this <;> omega
  · have ht : (if k < wpl S q (S.2 0 p) then k else k + 1) < q ∧ (if k < wpl S q (S.2 0 p) then k else k + 1) ≠ wpl S q (S.2 0 p) := by
      by_cases e : wpl S q (S.2 0 p) < q
      · rw [if_pos e] at hk
        split <;> omega
      · rw [if_neg e] at hk
        rw [if_pos (by omega)]
        omega
    obtain ⟨p', hp', e⟩ := Q.1 _ ht.1
    have hne : p' ≠ p := by
      intro h
      rw [h] at e
      exact ht.2 ((w2 _ ht.1).mp e.symm)
    by_cases g : p' < p
    · refine ⟨p', by omega, ?_⟩
      rw [l2 0 p' (by omega) (by omega), if_pos g, e, l4 k hk]
    · refine ⟨p' - 1, by omega, ?_⟩
      rw [l2 0 (p' - 1) (by omega) (by omega), if_neg (by omega), show p' - 1 + 1 = p' by omega, e, l4 k hk]
  · rw [l4 x hx, l4 y hy] at e
    have ht : ∀ k, k < (if wpl S q (S.2 0 p) < q then q - 1 else q) → (if k < wpl S q (S.2 0 p) then k else k + 1) < q := by
      intro k hk
      by_cases e : wpl S q (S.2 0 p) < q
      · rw [if_pos e] at hk
        split <;> omega
      · rw [if_neg e] at hk
        rw [if_pos (by omega)]
        omega
    have := Q.2 _ _ (ht x hx) (ht y hy) e
    split at this <;> split at this <;> omega
