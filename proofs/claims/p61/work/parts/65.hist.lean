/-! what the model keeps: the frame, the history, the saved state -/
section HIST
variable {S M : Mem} {N : Nat}
theorem m_rem (M : Mem) : ∃ M', f_X7_remembers M = some M' ∧ (∀ k, M'.1 k = if k = 0 then nI 0 else M.1 k) ∧ (∀ j y, j ≠ 1 → M'.2 j y = M.2 j y) ∧ ∀ y, y < 148 → M'.2 1 y = M.2 0 y := by
  rw [f_X7_remembers, li_0]
  have H := lpI (fun n i a => f_X7_remembers_L7 (fun M_4 => some M_4) n i a) (fun M_4 => some M_4) (fun i a => a.1 = (wrI M 0 (nI 0)).1 ∧ (∀ j y, j ≠ 1 → a.2 j y = M.2 j y) ∧ ∀ y, y < i → a.2 1 y = M.2 0 y) 148 ?_ ?_ 148 1200 0 (wrI M 0 (nI 0)) (by omega) (by omega) ⟨rfl, fun _ _ _ => rfl, fun y hy => absurd hy (by omega)⟩
  · obtain ⟨M', ⟨h1, h2, h3⟩, h4⟩ := H
    exact ⟨M', h4, fun k => by rw [h1, wrI_1], h2, h3⟩
  · intro n a _
    simp (disch := omega) only [f_X7_remembers_L7, li_0, li_1, li_2, li_3, li_4, li_5, li_6, li_7, li_8, li_9, li_10, li_11, li_12, li_16, li_20, li_23, li_24, li_30, li_32, li_35, li_37, li_40, li_42, li_46, li_48, li_53, li_57, li_58, li_59, li_60, li_63, li_64, li_65, li_97, li_99, li_100, li_101, li_120, li_126, li_132, li_148, li_300, li_999, li_1036, li_1184, li_9999, nn1, nI_leI, nI_ltI, nI_eq, nI_add, pk_mul, pk_sub, nI_clamp, ib_nI, if_pos, if_neg, if_true, if_false, eq_self, ob]
  · intro n i a hi ⟨a1, a2, a3⟩
    refine ⟨wrA a 1 (nI i) (a.2 0 i), ⟨a1, fun j y hj => by rw [wr_same _ _ _ _ _ _ hj, a2 j y hj], fun y hy => ?_⟩, by simp (disch := omega) only [f_X7_remembers_L7, li_0, li_1, li_2, li_3, li_4, li_5, li_6, li_7, li_8, li_9, li_10, li_11, li_12, li_16, li_20, li_23, li_24, li_30, li_32, li_35, li_37, li_40, li_42, li_46, li_48, li_53, li_57, li_58, li_59, li_60, li_63, li_64, li_65, li_97, li_99, li_100, li_101, li_120, li_126, li_132, li_148, li_300, li_999, li_1036, li_1184, li_9999, nn1, nI_leI, nI_ltI, nI_eq, nI_add, pk_mul, pk_sub, nI_clamp, ib_nI, if_pos, if_neg, if_true, if_false, eq_self, ob]⟩
    rw [wr_at _ _ (by omega)]
    by_cases g : y = i
    · rw [if_pos ⟨rfl, g⟩, a2 0 i (by omega), g]
    · rw [if_neg (fun h => g h.2), a3 y (by omega)]
/-- the frame is put at the history's end -/
theorem m_put (M : Mem) {k : Nat} (hk : k < 8) (hM : M.1 1 = nI (k + 1)) (x : Int32) : ∃ M', f_X7_changed_L55 x (fun M_5 => some (x, M_5)) 1200 0 M = some (x, M') ∧ M'.1 = M.1 ∧ (∀ j y, (j ≠ 3 ∨ y < 148 * k ∨ 148 * k + 148 ≤ y) → M'.2 j y = M.2 j y) ∧ ∀ y, y < 148 → M'.2 3 (148 * k + y) = M.2 1 y := by
  rw [li_0]
  have H := lpI (fun n i a => f_X7_changed_L55 x (fun M_5 => some (x, M_5)) n i a) (fun M_5 => some (x, M_5)) (fun i a => a.1 = M.1 ∧ (∀ j y, (j ≠ 3 ∨ y < 148 * k ∨ 148 * k + 148 ≤ y) → a.2 j y = M.2 j y) ∧ ∀ y, y < i → a.2 3 (148 * k + y) = M.2 1 y) 148 ?_ ?_ 148 1200 0 M (by omega) (by omega) ⟨rfl, fun _ _ _ => rfl, fun y hy => absurd hy (by omega)⟩
  · obtain ⟨M', ⟨h1, h2, h3⟩, h4⟩ := H
    exact ⟨M', h4, h1, h2, h3⟩
  · intro n a _
    simp (disch := omega) only [f_X7_changed_L55, li_0, li_1, li_2, li_3, li_4, li_5, li_6, li_7, li_8, li_9, li_10, li_11, li_12, li_16, li_20, li_23, li_24, li_30, li_32, li_35, li_37, li_40, li_42, li_46, li_48, li_53, li_57, li_58, li_59, li_60, li_63, li_64, li_65, li_97, li_99, li_100, li_101, li_120, li_126, li_132, li_148, li_300, li_999, li_1036, li_1184, li_9999, nn1, nI_leI, nI_ltI, nI_eq, nI_add, pk_mul, pk_sub, nI_clamp, ib_nI, if_pos, if_neg, if_true, if_false, eq_self, ob]
  · intro n i a hi ⟨a1, a2, a3⟩
    have ha : a.1 1 = nI (k + 1) := by rw [a1, hM]
    refine ⟨wrA a 3 (nI (148 * k + i)) (a.2 1 i), ⟨a1, fun j y hj => by rw [wr_at _ _ (by omega), if_neg (by omega), a2 j y hj], fun y hy => ?_⟩, ?_⟩
    · rw [wr_at _ _ (by omega)]
      by_cases g : y = i
      · rw [if_pos (by omega), a2 1 i (Or.inl (by omega)), g]
      · rw [if_neg (by omega), a3 y (by omega)]
    · rw [f_X7_changed_L55, li_148, if_neg (nI_ge hi (by omega)), if_pos (ib_nI (by omega) (by omega)), ha, li_1, pk_sub (by omega), pk_mul, nI_add, nI_add, if_pos (ib_nI (by omega) (by omega)), nI_clamp (by omega), Nat.add_sub_cancel]
theorem m_shift (M : Mem) (x : Int32) (kk : Mem → Option (Int32 × Mem)) : ∃ M', f_X7_changed_L11 x kk 1200 0 M = kk M' ∧ M'.1 = M.1 ∧ (∀ j y, j ≠ 3 → M'.2 j y = M.2 j y) ∧ ∀ y, y < 1036 → M'.2 3 y = M.2 3 (y + 148) := by
  rw [li_0]
  have H := lpI (fun n i a => f_X7_changed_L11 x kk n i a) kk (fun i a => a.1 = M.1 ∧ (∀ j y, j ≠ 3 → a.2 j y = M.2 j y) ∧ (∀ y, y < i → a.2 3 y = M.2 3 (y + 148)) ∧ ∀ y, i ≤ y → a.2 3 y = M.2 3 y) 1036 ?_ ?_ 1036 1200 0 M (by omega) (by omega) ⟨rfl, fun _ _ _ => rfl, fun y hy => absurd hy (by omega), fun _ _ => rfl⟩
  · obtain ⟨M', ⟨h1, h2, h3, h4⟩, h5⟩ := H
    exact ⟨M', h5, h1, h2, h3⟩
  · intro n a _
    simp (disch := omega) only [f_X7_changed_L11, li_0, li_1, li_2, li_3, li_4, li_5, li_6, li_7, li_8, li_9, li_10, li_11, li_12, li_16, li_20, li_23, li_24, li_30, li_32, li_35, li_37, li_40, li_42, li_46, li_48, li_53, li_57, li_58, li_59, li_60, li_63, li_64, li_65, li_97, li_99, li_100, li_101, li_120, li_126, li_132, li_148, li_300, li_999, li_1036, li_1184, li_9999, nn1, nI_leI, nI_ltI, nI_eq, nI_add, pk_mul, pk_sub, nI_clamp, ib_nI, if_pos, if_neg, if_true, if_false, eq_self, ob]
  · intro n i a hi ⟨a1, a2, a3, a4⟩
    refine ⟨wrA a 3 (nI i) (a.2 3 (i + 148)), ⟨a1, fun j y hj => by rw [wr_same _ _ _ _ _ _ hj, a2 j y hj], fun y hy => ?_, fun y hy => by rw [wr_at _ _ (by omega), if_neg (by omega), a4 y (by omega)]⟩, by simp (disch := omega) only [f_X7_changed_L11, li_0, li_1, li_2, li_3, li_4, li_5, li_6, li_7, li_8, li_9, li_10, li_11, li_12, li_16, li_20, li_23, li_24, li_30, li_32, li_35, li_37, li_40, li_42, li_46, li_48, li_53, li_57, li_58, li_59, li_60, li_63, li_64, li_65, li_97, li_99, li_100, li_101, li_120, li_126, li_132, li_148, li_300, li_999, li_1036, li_1184, li_9999, nn1, nI_leI, nI_ltI, nI_eq, nI_add, pk_mul, pk_sub, nI_clamp, ib_nI, if_pos, if_neg, if_true, if_false, eq_self, ob]⟩
    rw [wr_at _ _ (by omega)]
    by_cases g : y = i
    · rw [if_pos ⟨rfl, g⟩, a4 _ (by omega), g]
    · rw [if_neg (fun h => g h.2), a3 y (by omega)]
/-- a change is kept: what changed does to k kept frames -/
theorem m_changed (M : Mem) {k : Nat} (hk : k ≤ 8) (hM : M.1 1 = nI k) (x : Int32) : ∃ M', f_X7_changed M x = some (x, M') ∧ M'.1 1 = nI (if k = 8 then 8 else k + 1) ∧ (∀ j, j ≠ 1 → M'.1 j = M.1 j) ∧ (∀ j y, j ≠ 3 → M'.2 j y = M.2 j y) ∧ (∀ i y, y < 148 → i < (if k = 8 then 7 else k) → M'.2 3 (148 * i + y) = M.2 3 (148 * (if k = 8 then i + 1 else i) + y)) ∧ ∀ y, y < 148 → M'.2 3 (148 * (if k = 8 then 7 else k) + y) = M.2 1 y := by
  by_cases e : k = 8
  · subst e
    obtain ⟨M1, a1, a2, a3, a4⟩ := m_shift M x (fun M_9 => f_X7_changed_L55 x (fun M_10 => some (x, M_10)) 1200 0 M_9)
    obtain ⟨M2, b1, b2, b3, b4⟩ := m_put M1 (k := 7) (by omega) (by rw [a2, hM]) x
    have h8 : M.1 1 = 8 := hM
    refine ⟨M2, ?_, ?_, fun j _ => by rw [b2, a2], fun j y hj => by rw [b3 j y (Or.inl hj), a3 j y hj], fun i y hy hi => ?_, fun y hy => ?_⟩
    · rw [f_X7_changed, if_pos h8]
      exact a1.trans b1
    · rw [b2, a2, hM]
      rfl
    · rw [if_pos rfl] at hi
      rw [if_pos rfl, b3 3 _ (by omega), a4 _ (by omega), show 148 * i + y + 148 = 148 * (i + 1) + y by omega]
    · rw [if_pos rfl, b4 y hy, a3 1 y (by omega)]
  · have h8 : ¬ M.1 1 = 8 := by
      rw [hM, li_8, nI_eq (by omega) (by omega)]
      exact e
    obtain ⟨M2, b1, b2, b3, b4⟩ := m_put (wrI M 1 (nI (k + 1))) (k := k) (by omega) (by rw [wrI_1, if_pos rfl]) x
    refine ⟨M2, ?_, ?_, fun j hj => by rw [b2, wrI_1, if_neg hj], fun j y hj => b3 j y (Or.inl hj), fun i y hy hi => ?_, fun y hy => ?_⟩
    · rw [f_X7_changed, if_neg h8, hM, li_1, nI_add]
      exact b1
    · rw [b2, wrI_1, if_pos rfl, if_neg e]
    · rw [if_neg e] at hi
      rw [if_neg e, b3 3 _ (by omega), wrI_2]
    · rw [if_neg e, b4 y hy, wrI_2]
/-- the ring of states of the class and the model's history -/
def HR (N : Nat) (nn : Nat → Prop) (H : Nat → Mem) (cu ct : Nat) (M : Mem) : Prop := cu < 9 ∧ ct ≤ 8 ∧ M.1 1 = nI ct ∧ ∀ i, i < ct → nn ((cu + 9 - ct + i) % 9) ∧ St N (H ((cu + 9 - ct + i) % 9)) (fun y => M.2 3 (148 * i + y))
theorem HR.mono {N N' : Nat} {nn : Nat → Prop} {H : Nat → Mem} {cu ct : Nat} {M : Mem} (h : HR N nn H cu ct M) (hh : N ≤ N') : HR N' nn H cu ct M := ⟨h.1, h.2.1, h.2.2.1, fun i hi => ⟨(h.2.2.2 i hi).1, (h.2.2.2 i hi).2.mono hh⟩⟩
theorem HR.move {N : Nat} {nn : Nat → Prop} {H : Nat → Mem} {cu ct : Nat} {M M' : Mem} (h : HR N nn H cu ct M) (h1 : M'.1 1 = M.1 1) (h2 : ∀ y, M'.2 3 y = M.2 3 y) : HR N nn H cu ct M' := ⟨h.1, h.2.1, by rw [h1, h.2.2.1], fun i hi => ⟨(h.2.2.2 i hi).1, (h.2.2.2 i hi).2.congr (fun y _ => h2 _)⟩⟩
theorem HR.put {nn : Nat → Prop} {H : Nat → Mem} {cu ct : Nat} {M M' P : Mem} (h : HR N nn H cu ct M) (hP : St N P (M.2 1)) (h1 : M'.1 1 = nI (if ct = 8 then 8 else ct + 1)) (h2 : ∀ i y, y < 148 → i < (if ct = 8 then 7 else ct) → M'.2 3 (148 * i + y) = M.2 3 (148 * (if ct = 8 then i + 1 else i) + y)) (h3 : ∀ y, y < 148 → M'.2 3 (148 * (if ct = 8 then 7 else ct) + y) = M.2 1 y) :
    HR N (fun j => nn j ∨ j = cu) (fun j => if j = cu then P else H j) (if cu = 8 then 0 else cu + 1) (if ct = 8 then 8 else ct + 1) M' := by
  obtain ⟨g1, g2, g3, g4⟩ := h
  refine ⟨by split <;> omega, by split <;> omega, h1, fun i hi => ?_⟩
  have hcu : ((if cu = 8 then 0 else cu + 1) + 9 - (if ct = 8 then 8 else ct + 1) + i) % 9 = (cu + 10 - (if ct = 8 then 8 else ct + 1) + i) % 9 := by
    split <;> split <;> omega
  rw [hcu]
  by_cases e : ct = 8
  · subst e
    rw [if_pos rfl] at hi h2 h3 ⊢
    by_cases f : i = 7
    · subst f
      have : (cu + 10 - 8 + 7) % 9 = cu := by omega
      rw [this]
      refine ⟨Or.inr rfl, ?_⟩
      simp only [if_true]
      exact hP.congr (fun y hy => h3 y hy)
    · have hne : (cu + 10 - 8 + i) % 9 ≠ cu := by omega
      obtain ⟨k1, k2⟩ := g4 (i + 1) (by omega)
      have he : (cu + 9 - 8 + (i + 1)) % 9 = (cu + 10 - 8 + i) % 9 := by omega
      rw [he] at k1 k2
      refine ⟨Or.inl k1, ?_⟩
      simp only [if_neg hne]
      exact k2.congr (fun y hy => by rw [h2 i y hy (by omega), if_pos rfl])
  · rw [if_neg e] at hi h2 h3 ⊢
    by_cases f : i = ct
    · subst f
      have : (cu + 10 - (i + 1) + i) % 9 = cu := by omega
      rw [this]
      refine ⟨Or.inr rfl, ?_⟩
      simp only [if_true]
      exact hP.congr (fun y hy => h3 y hy)
    · have hne : (cu + 10 - (ct + 1) + i) % 9 ≠ cu := by omega
      obtain ⟨k1, k2⟩ := g4 i (by omega)
      have he : (cu + 9 - ct + i) % 9 = (cu + 10 - (ct + 1) + i) % 9 := by omega
      rw [he] at k1 k2
      refine ⟨Or.inl k1, ?_⟩
      simp only [if_neg hne]
      exact k2.congr (fun y hy => by rw [h2 i y hy (by omega), if_neg e])
/-- the model's undo -/
theorem m_undo (M : Mem) {k : Nat} (hk : k ≤ 8) (hM : M.1 1 = nI k) : (k = 0 ∧ f_X7_undo M = some (0, wrI M 0 (nI 1))) ∨ (k ≠ 0 ∧ ∃ M', f_X7_undo M = some (nI (k - 1), M') ∧ M'.1 0 = nI 0 ∧ M'.1 1 = nI (k - 1) ∧ (∀ j, j ≠ 0 → j ≠ 1 → M'.1 j = M.1 j) ∧ (∀ j y, j ≠ 0 → M'.2 j y = M.2 j y) ∧ ∀ y, y < 148 → M'.2 0 y = M.2 3 (148 * (k - 1) + y)) := by
  by_cases e : k = 0
  · subst e
    refine Or.inl ⟨rfl, ?_⟩
    have h0 : M.1 1 = 0 := hM
    rw [f_X7_undo, if_pos h0, f_X7_fails, ob, wrI_wrI]
    rfl
  · have h0 : ¬ M.1 1 = 0 := by
      rw [hM, li_0, nI_eq (by omega) (by omega)]
      exact e
    have H := lpI (fun n i a => f_X7_undo_L30 (fun M_5 => some ((M_5.1 1), M_5)) n i a) (fun M_5 => some ((M_5.1 1), M_5)) (fun i a => a.1 = (wrI (wrI M 0 (nI 0)) 1 (nI (k - 1))).1 ∧ (∀ j y, j ≠ 0 → a.2 j y = M.2 j y) ∧ ∀ y, y < i → a.2 0 y = M.2 3 (148 * (k - 1) + y)) 148 ?_ ?_ 148 1200 0 (wrI (wrI M 0 (nI 0)) 1 (nI (k - 1))) (by omega) (by omega) ⟨rfl, fun _ _ _ => rfl, fun y hy => absurd hy (by omega)⟩
    · obtain ⟨M', ⟨h1, h2, h3⟩, h4⟩ := H
      refine Or.inr ⟨e, M', ?_, ?_, ?_, fun j j0 j1 => ?_, h2, h3⟩
      · rw [f_X7_undo, if_neg h0, hM, li_1, pk_sub (by omega)]
        refine h4.trans ?_
        rw [h1]
        rfl
      · rw [h1]; rfl
      · rw [h1]; rfl
      · rw [h1, wrI_1, if_neg j1, wrI_1, if_neg j0]
    · intro n a _
      simp (disch := omega) only [f_X7_undo_L30, li_0, li_1, li_2, li_3, li_4, li_5, li_6, li_7, li_8, li_9, li_10, li_11, li_12, li_16, li_20, li_23, li_24, li_30, li_32, li_35, li_37, li_40, li_42, li_46, li_48, li_53, li_57, li_58, li_59, li_60, li_63, li_64, li_65, li_97, li_99, li_100, li_101, li_120, li_126, li_132, li_148, li_300, li_999, li_1036, li_1184, li_9999, nn1, nI_leI, nI_ltI, nI_eq, nI_add, pk_mul, pk_sub, nI_clamp, ib_nI, if_pos, if_neg, if_true, if_false, eq_self, ob]
    · intro n i a hi ⟨a1, a2, a3⟩
      have ha : a.1 1 = nI (k - 1) := by rw [a1]; rfl
      refine ⟨wrA a 0 (nI i) (a.2 3 (148 * (k - 1) + i)), ⟨a1, fun j y hj => by rw [wr_same _ _ _ _ _ _ hj, a2 j y hj], fun y hy => ?_⟩, ?_⟩
      · rw [wr_at _ _ (by omega)]
        by_cases g : y = i
        · rw [if_pos ⟨rfl, g⟩, a2 3 _ (by omega), g]
        · rw [if_neg (fun h => g h.2), a3 y (by omega)]
      · rw [f_X7_undo_L30, li_148, if_neg (nI_ge hi (by omega)), ha, pk_mul, nI_add, if_pos (ib_nI (by omega) (by omega)), if_pos (ib_nI (by omega) (by omega)), nI_clamp (by omega), li_1, nI_add]
theorem HR.undo {nn : Nat → Prop} {H : Nat → Mem} {cu ct : Nat} {M M' : Mem} (h : HR N nn H cu ct M) (hc : ct ≠ 0) (h1 : M'.1 1 = nI (ct - 1)) (h2 : ∀ y, M'.2 3 y = M.2 3 y) : HR N nn H (if cu = 0 then 8 else cu - 1) (ct - 1) M' ∧ nn (if cu = 0 then 8 else cu - 1) ∧ St N (H (if cu = 0 then 8 else cu - 1)) (fun y => M.2 3 (148 * (ct - 1) + y)) := by
  obtain ⟨g1, g2, g3, g4⟩ := h
  refine ⟨⟨by split <;> omega, by omega, h1, fun i hi => ?_⟩, ?_⟩
  · obtain ⟨k1, k2⟩ := g4 i (by omega)
    have he : ((if cu = 0 then 8 else cu - 1) + 9 - (ct - 1) + i) % 9 = (cu + 9 - ct + i) % 9 := by split <;> omega
    rw [he]
    exact ⟨k1, k2.congr (fun y _ => h2 _)⟩
  · have := g4 (ct - 1) (by omega)
    have he : (cu + 9 - ct + (ct - 1)) % 9 = if cu = 0 then 8 else cu - 1 := by split <;> omega
    rw [he] at this
    exact this
/-- the model's save and restore -/
theorem m_save (s : St N S (M.2 0)) : ∃ M', f_X7_save M = some (S.1 0, M') ∧ M'.1 0 = nI 0 ∧ M'.1 2 = nI 1 ∧ (∀ j, j ≠ 0 → j ≠ 2 → M'.1 j = M.1 j) ∧ (∀ j y, j ≠ 2 → M'.2 j y = M.2 j y) ∧ St N S (M'.2 2) := by
  have H := lpI (fun n i a => f_X7_save_L7 (fun M_4 => if ib 1 148 = true then some ((M_4.2 0 (Int32.toNatClampNeg 1)), (wrI M_4 2 1)) else none) n i a) (fun M_4 => if ib 1 148 = true then some ((M_4.2 0 (Int32.toNatClampNeg 1)), (wrI M_4 2 1)) else none) (fun i a => a.1 = (wrI M 0 (nI 0)).1 ∧ (∀ j y, j ≠ 2 → a.2 j y = M.2 j y) ∧ ∀ y, y < i → a.2 2 y = M.2 0 y) 148 ?_ ?_ 148 1200 0 (wrI M 0 (nI 0)) (by omega) (by omega) ⟨rfl, fun _ _ _ => rfl, fun y hy => absurd hy (by omega)⟩
  · obtain ⟨M', ⟨h1, h2, h3⟩, h4⟩ := H
    have i1 : ib 1 148 = true := by decide +kernel
    have c1 : Int32.toNatClampNeg 1 = 1 := by decide +kernel
    refine ⟨wrI M' 2 1, ?_, ?_, rfl, fun j j0 j2 => ?_, h2, ?_⟩
    · rw [if_pos i1, c1] at h4
      obtain ⟨c, t, q, R, -⟩ := s
      rw [show S.1 0 = M'.2 0 1 by rw [h2 0 1 (by omega), R.c1, R.c2]]
      exact h4
    · rw [wrI_1, if_neg (by omega), h1]; rfl
    · rw [wrI_1, if_neg j2, h1, wrI_1, if_neg j0]
    · exact s.congr (fun y hy => h3 y hy)
  · intro n a _
    simp (disch := omega) only [f_X7_save_L7, li_0, li_1, li_2, li_3, li_4, li_5, li_6, li_7, li_8, li_9, li_10, li_11, li_12, li_16, li_20, li_23, li_24, li_30, li_32, li_35, li_37, li_40, li_42, li_46, li_48, li_53, li_57, li_58, li_59, li_60, li_63, li_64, li_65, li_97, li_99, li_100, li_101, li_120, li_126, li_132, li_148, li_300, li_999, li_1036, li_1184, li_9999, nn1, nI_leI, nI_ltI, nI_eq, nI_add, pk_mul, pk_sub, nI_clamp, ib_nI, if_pos, if_neg, if_true, if_false, eq_self, ob]
  · intro n i a hi ⟨a1, a2, a3⟩
    refine ⟨wrA a 2 (nI i) (a.2 0 i), ⟨a1, fun j y hj => by rw [wr_same _ _ _ _ _ _ hj, a2 j y hj], fun y hy => ?_⟩, by simp (disch := omega) only [f_X7_save_L7, li_0, li_1, li_2, li_3, li_4, li_5, li_6, li_7, li_8, li_9, li_10, li_11, li_12, li_16, li_20, li_23, li_24, li_30, li_32, li_35, li_37, li_40, li_42, li_46, li_48, li_53, li_57, li_58, li_59, li_60, li_63, li_64, li_65, li_97, li_99, li_100, li_101, li_120, li_126, li_132, li_148, li_300, li_999, li_1036, li_1184, li_9999, nn1, nI_leI, nI_ltI, nI_eq, nI_add, pk_mul, pk_sub, nI_clamp, ib_nI, if_pos, if_neg, if_true, if_false, eq_self, ob]⟩
    rw [wr_at _ _ (by omega)]
    by_cases g : y = i
    · rw [if_pos ⟨rfl, g⟩, a2 0 i (by omega), g]
    · rw [if_neg (fun h => g h.2), a3 y (by omega)]
theorem m_restore (M : Mem) {P : Mem} : (M.1 2 = 0 → f_X7_restore M = some (0, wrI M 0 (nI 1))) ∧ (M.1 2 ≠ 0 → St N P (M.2 2) → ∃ M', f_X7_restore M = some (P.1 0, M') ∧ M'.1 0 = nI 0 ∧ M'.1 1 = nI 0 ∧ (∀ j, j ≠ 0 → j ≠ 1 → M'.1 j = M.1 j) ∧ (∀ j y, j ≠ 0 → M'.2 j y = M.2 j y) ∧ St N P (M'.2 0)) := by
  refine ⟨fun h => ?_, fun h s => ?_⟩
  · rw [f_X7_restore, if_pos h, f_X7_fails, ob, wrI_wrI]
    rfl
  · have H := lpI (fun n i a => f_X7_restore_L20 (fun M_5 => if ib 1 148 = true then some ((M_5.2 0 (Int32.toNatClampNeg 1)), (wrI M_5 1 0)) else none) n i a) (fun M_5 => if ib 1 148 = true then some ((M_5.2 0 (Int32.toNatClampNeg 1)), (wrI M_5 1 0)) else none) (fun i a => a.1 = (wrI M 0 (nI 0)).1 ∧ (∀ j y, j ≠ 0 → a.2 j y = M.2 j y) ∧ ∀ y, y < i → a.2 0 y = M.2 2 y) 148 ?_ ?_ 148 1200 0 (wrI M 0 (nI 0)) (by omega) (by omega) ⟨rfl, fun _ _ _ => rfl, fun y hy => absurd hy (by omega)⟩
    · obtain ⟨M', ⟨h1, h2, h3⟩, h4⟩ := H
      have i1 : ib 1 148 = true := by decide +kernel
      have c1 : Int32.toNatClampNeg 1 = 1 := by decide +kernel
      have sM : St N P (M'.2 0) := s.congr (fun y hy => h3 y hy)
      refine ⟨wrI M' 1 0, ?_, ?_, rfl, fun j j0 j1 => ?_, h2, sM⟩
      · rw [if_pos i1, c1] at h4
        obtain ⟨c, t, q, R, -⟩ := sM
        rw [show P.1 0 = M'.2 0 1 by rw [R.c1, R.c2]]
        rw [f_X7_restore, if_neg h]
        exact h4
      · rw [wrI_1, if_neg (by omega), h1]; rfl
      · rw [wrI_1, if_neg j1, h1, wrI_1, if_neg j0]
    · intro n a _
      simp (disch := omega) only [f_X7_restore_L20, li_0, li_1, li_2, li_3, li_4, li_5, li_6, li_7, li_8, li_9, li_10, li_11, li_12, li_16, li_20, li_23, li_24, li_30, li_32, li_35, li_37, li_40, li_42, li_46, li_48, li_53, li_57, li_58, li_59, li_60, li_63, li_64, li_65, li_97, li_99, li_100, li_101, li_120, li_126, li_132, li_148, li_300, li_999, li_1036, li_1184, li_9999, nn1, nI_leI, nI_ltI, nI_eq, nI_add, pk_mul, pk_sub, nI_clamp, ib_nI, if_pos, if_neg, if_true, if_false, eq_self, ob]
    · intro n i a hi ⟨a1, a2, a3⟩
      refine ⟨wrA a 0 (nI i) (a.2 2 i), ⟨a1, fun j y hj => by rw [wr_same _ _ _ _ _ _ hj, a2 j y hj], fun y hy => ?_⟩, by simp (disch := omega) only [f_X7_restore_L20, li_0, li_1, li_2, li_3, li_4, li_5, li_6, li_7, li_8, li_9, li_10, li_11, li_12, li_16, li_20, li_23, li_24, li_30, li_32, li_35, li_37, li_40, li_42, li_46, li_48, li_53, li_57, li_58, li_59, li_60, li_63, li_64, li_65, li_97, li_99, li_100, li_101, li_120, li_126, li_132, li_148, li_300, li_999, li_1036, li_1184, li_9999, nn1, nI_leI, nI_ltI, nI_eq, nI_add, pk_mul, pk_sub, nI_clamp, ib_nI, if_pos, if_neg, if_true, if_false, eq_self, ob]⟩
      rw [wr_at _ _ (by omega)]
      by_cases g : y = i
      · rw [if_pos ⟨rfl, g⟩, a2 2 i (by omega), g]
      · rw [if_neg (fun h => g h.2), a3 y (by omega)]
end HIST
