/-! what the reading methods answer: the class' lots -/
theorem c_slotWith {S : Mem} {c : Nat} (hc : S.1 0 = nI c) (h : c ≤ 16) (x : Int32) : f_X3_slotWith S x = some (oi (fnd (fun p => decide (S.2 0 p = x)) c 0)) := by
  unfold f_X3_slotWith
  rw [li_0]
  refine (lpS (fun n i => f_X3_slotWith_L2 x S (some (-1)) n i) (some (-1)) (fun p => decide (S.2 0 p = x)) (fun j => some (nI j)) c ?_ ?_ c 40 0 (by omega) (by omega)).trans (fk_so _ _ _)
  · intro n
    simp (disch := omega) only [f_X3_slotWith_L2, hc, li_0, li_1, li_2, li_3, li_4, li_5, li_6, li_7, li_8, li_9, li_10, li_11, li_12, li_16, li_20, li_23, li_24, li_30, li_32, li_35, li_37, li_40, li_42, li_46, li_48, li_53, li_57, li_58, li_59, li_60, li_63, li_64, li_65, li_97, li_99, li_100, li_101, li_120, li_126, li_132, li_148, li_300, li_999, li_1036, li_1184, li_9999, nn1, nI_leI, nI_ltI, nI_eq, nI_add, pk_mul, pk_sub, nI_clamp, ib_nI, if_pos, if_neg, if_true, if_false, eq_self, ob]
  · intro n i hi
    simp (disch := omega) only [f_X3_slotWith_L2, hc, decide_eq_true_eq, li_0, li_1, li_2, li_3, li_4, li_5, li_6, li_7, li_8, li_9, li_10, li_11, li_12, li_16, li_20, li_23, li_24, li_30, li_32, li_35, li_37, li_40, li_42, li_46, li_48, li_53, li_57, li_58, li_59, li_60, li_63, li_64, li_65, li_97, li_99, li_100, li_101, li_120, li_126, li_132, li_148, li_300, li_999, li_1036, li_1184, li_9999, nn1, nI_leI, nI_ltI, nI_eq, nI_add, pk_mul, pk_sub, nI_clamp, ib_nI, if_pos, if_neg, if_true, if_false, eq_self, ob]
theorem c_slotAt {S : Mem} {c : Nat} (hc : S.1 0 = nI c) (h : c ≤ 16) (x : Int32) : f_X3_slotAt S x = some (oi (fnd (fun p => decide (S.2 4 p = x)) c 0)) := by
  unfold f_X3_slotAt
  rw [li_0]
  refine (lpS (fun n i => f_X3_slotAt_L2 x S (some (-1)) n i) (some (-1)) (fun p => decide (S.2 4 p = x)) (fun j => some (nI j)) c ?_ ?_ c 40 0 (by omega) (by omega)).trans (fk_so _ _ _)
  · intro n
    simp (disch := omega) only [f_X3_slotAt_L2, hc, li_0, li_1, li_2, li_3, li_4, li_5, li_6, li_7, li_8, li_9, li_10, li_11, li_12, li_16, li_20, li_23, li_24, li_30, li_32, li_35, li_37, li_40, li_42, li_46, li_48, li_53, li_57, li_58, li_59, li_60, li_63, li_64, li_65, li_97, li_99, li_100, li_101, li_120, li_126, li_132, li_148, li_300, li_999, li_1036, li_1184, li_9999, nn1, nI_leI, nI_ltI, nI_eq, nI_add, pk_mul, pk_sub, nI_clamp, ib_nI, if_pos, if_neg, if_true, if_false, eq_self, ob]
  · intro n i hi
    simp (disch := omega) only [f_X3_slotAt_L2, hc, decide_eq_true_eq, li_0, li_1, li_2, li_3, li_4, li_5, li_6, li_7, li_8, li_9, li_10, li_11, li_12, li_16, li_20, li_23, li_24, li_30, li_32, li_35, li_37, li_40, li_42, li_46, li_48, li_53, li_57, li_58, li_59, li_60, li_63, li_64, li_65, li_97, li_99, li_100, li_101, li_120, li_126, li_132, li_148, li_300, li_999, li_1036, li_1184, li_9999, nn1, nI_leI, nI_ltI, nI_eq, nI_add, pk_mul, pk_sub, nI_clamp, ib_nI, if_pos, if_neg, if_true, if_false, eq_self, ob]
theorem c_valueOf (S : Mem) {p : Nat} (h : p < 16) : f_X3_valueOf S (nI p) = some (S.2 2 p * S.2 3 p) := by
  simp (disch := omega) only [f_X3_valueOf, li_0, li_1, li_2, li_3, li_4, li_5, li_6, li_7, li_8, li_9, li_10, li_11, li_12, li_16, li_20, li_23, li_24, li_30, li_32, li_35, li_37, li_40, li_42, li_46, li_48, li_53, li_57, li_58, li_59, li_60, li_63, li_64, li_65, li_97, li_99, li_100, li_101, li_120, li_126, li_132, li_148, li_300, li_999, li_1036, li_1184, li_9999, nn1, nI_leI, nI_ltI, nI_eq, nI_add, pk_mul, pk_sub, nI_clamp, ib_nI, if_pos, if_neg, if_true, if_false, eq_self, ob]
theorem c_sumOfValues {S : Mem} {c : Nat} (hc : S.1 0 = nI c) (h : c ≤ 16) : f_X3_sumOfValues S = some (sI (fun p => S.2 2 p * S.2 3 p) c) := by
  unfold f_X3_sumOfValues
  rw [li_0]
  refine lpA (fun n i a => f_X3_sumOfValues_L4 S (fun y => some y) n a i) (fun y => some y) (fun p => S.2 2 p * S.2 3 p) c ?_ ?_ (by omega)
  · intro n a
    simp (disch := omega) only [f_X3_sumOfValues_L4, hc, li_0, li_1, li_2, li_3, li_4, li_5, li_6, li_7, li_8, li_9, li_10, li_11, li_12, li_16, li_20, li_23, li_24, li_30, li_32, li_35, li_37, li_40, li_42, li_46, li_48, li_53, li_57, li_58, li_59, li_60, li_63, li_64, li_65, li_97, li_99, li_100, li_101, li_120, li_126, li_132, li_148, li_300, li_999, li_1036, li_1184, li_9999, nn1, nI_leI, nI_ltI, nI_eq, nI_add, pk_mul, pk_sub, nI_clamp, ib_nI, if_pos, if_neg, if_true, if_false, eq_self, ob]
  · intro n i a hi
    simp (disch := omega) only [f_X3_sumOfValues_L4, c_valueOf, hc, li_0, li_1, li_2, li_3, li_4, li_5, li_6, li_7, li_8, li_9, li_10, li_11, li_12, li_16, li_20, li_23, li_24, li_30, li_32, li_35, li_37, li_40, li_42, li_46, li_48, li_53, li_57, li_58, li_59, li_60, li_63, li_64, li_65, li_97, li_99, li_100, li_101, li_120, li_126, li_132, li_148, li_300, li_999, li_1036, li_1184, li_9999, nn1, nI_leI, nI_ltI, nI_eq, nI_add, pk_mul, pk_sub, nI_clamp, ib_nI, if_pos, if_neg, if_true, if_false, eq_self, ob]
theorem c_quantityOf {S : Mem} {c : Nat} (hc : S.1 0 = nI c) (h : c ≤ 16) (x : Int32) : f_X3_quantityOf S x = some (sI (fun p => if S.2 1 p = x then S.2 2 p else 0) c) := by
  unfold f_X3_quantityOf
  rw [li_0]
  refine lpA (fun n i a => f_X3_quantityOf_L4 x S (fun y => some y) n a i) (fun y => some y) (fun p => if S.2 1 p = x then S.2 2 p else 0) c ?_ ?_ (by omega)
  · intro n a
    simp (disch := omega) only [f_X3_quantityOf_L4, hc, li_0, li_1, li_2, li_3, li_4, li_5, li_6, li_7, li_8, li_9, li_10, li_11, li_12, li_16, li_20, li_23, li_24, li_30, li_32, li_35, li_37, li_40, li_42, li_46, li_48, li_53, li_57, li_58, li_59, li_60, li_63, li_64, li_65, li_97, li_99, li_100, li_101, li_120, li_126, li_132, li_148, li_300, li_999, li_1036, li_1184, li_9999, nn1, nI_leI, nI_ltI, nI_eq, nI_add, pk_mul, pk_sub, nI_clamp, ib_nI, if_pos, if_neg, if_true, if_false, eq_self, ob]
  · intro n i a hi
    by_cases e : S.2 1 i = x
    · simp (disch := omega) only [f_X3_quantityOf_L4, hc, e, li_0, li_1, li_2, li_3, li_4, li_5, li_6, li_7, li_8, li_9, li_10, li_11, li_12, li_16, li_20, li_23, li_24, li_30, li_32, li_35, li_37, li_40, li_42, li_46, li_48, li_53, li_57, li_58, li_59, li_60, li_63, li_64, li_65, li_97, li_99, li_100, li_101, li_120, li_126, li_132, li_148, li_300, li_999, li_1036, li_1184, li_9999, nn1, nI_leI, nI_ltI, nI_eq, nI_add, pk_mul, pk_sub, nI_clamp, ib_nI, if_pos, if_neg, if_true, if_false, eq_self, ob]
    · simp (disch := omega) only [f_X3_quantityOf_L4, hc, e, Int32.add_zero, nI_leI, nI_ltI, nI_eq, nI_add, pk_mul, pk_sub, nI_clamp, ib_nI, if_pos, if_neg, if_true, if_false, eq_self, ob, li_1]
theorem c_countSealed {S : Mem} {c : Nat} (hc : S.1 0 = nI c) (h : c ≤ 16) : f_X3_countSealed S = some (sI (fun p => if S.2 5 p = 0 then 0 else 1) c) := by
  unfold f_X3_countSealed
  rw [li_0]
  refine lpA (fun n i a => f_X3_countSealed_L4 S (fun y => some y) n a i) (fun y => some y) (fun p => if S.2 5 p = 0 then 0 else 1) c ?_ ?_ (by omega)
  · intro n a
    simp (disch := omega) only [f_X3_countSealed_L4, hc, li_0, li_1, li_2, li_3, li_4, li_5, li_6, li_7, li_8, li_9, li_10, li_11, li_12, li_16, li_20, li_23, li_24, li_30, li_32, li_35, li_37, li_40, li_42, li_46, li_48, li_53, li_57, li_58, li_59, li_60, li_63, li_64, li_65, li_97, li_99, li_100, li_101, li_120, li_126, li_132, li_148, li_300, li_999, li_1036, li_1184, li_9999, nn1, nI_leI, nI_ltI, nI_eq, nI_add, pk_mul, pk_sub, nI_clamp, ib_nI, if_pos, if_neg, if_true, if_false, eq_self, ob]
  · intro n i a hi
    by_cases e : S.2 5 i = 0
    · simp (disch := omega) only [f_X3_countSealed_L4, hc, e, Int32.add_zero, nI_leI, nI_ltI, nI_eq, nI_add, pk_mul, pk_sub, nI_clamp, ib_nI, if_pos, if_neg, if_true, if_false, eq_self, ob, li_1]
    · simp (disch := omega) only [f_X3_countSealed_L4, hc, e, nI_leI, nI_ltI, nI_eq, nI_add, pk_mul, pk_sub, nI_clamp, ib_nI, if_pos, if_neg, if_true, if_false, eq_self, ob, li_1]
theorem c_countDamp {S : Mem} {c : Nat} (hc : S.1 0 = nI c) (h : c ≤ 16) : f_X3_countDamp S = some (sI (fun p => if S.2 6 p = 0 then 0 else 1) c) := by
  unfold f_X3_countDamp
  rw [li_0]
  refine lpA (fun n i a => f_X3_countDamp_L4 S (fun y => some y) n a i) (fun y => some y) (fun p => if S.2 6 p = 0 then 0 else 1) c ?_ ?_ (by omega)
  · intro n a
    simp (disch := omega) only [f_X3_countDamp_L4, hc, li_0, li_1, li_2, li_3, li_4, li_5, li_6, li_7, li_8, li_9, li_10, li_11, li_12, li_16, li_20, li_23, li_24, li_30, li_32, li_35, li_37, li_40, li_42, li_46, li_48, li_53, li_57, li_58, li_59, li_60, li_63, li_64, li_65, li_97, li_99, li_100, li_101, li_120, li_126, li_132, li_148, li_300, li_999, li_1036, li_1184, li_9999, nn1, nI_leI, nI_ltI, nI_eq, nI_add, pk_mul, pk_sub, nI_clamp, ib_nI, if_pos, if_neg, if_true, if_false, eq_self, ob]
  · intro n i a hi
    by_cases e : S.2 6 i = 0
    · simp (disch := omega) only [f_X3_countDamp_L4, hc, e, Int32.add_zero, nI_leI, nI_ltI, nI_eq, nI_add, pk_mul, pk_sub, nI_clamp, ib_nI, if_pos, if_neg, if_true, if_false, eq_self, ob, li_1]
    · simp (disch := omega) only [f_X3_countDamp_L4, hc, e, nI_leI, nI_ltI, nI_eq, nI_add, pk_mul, pk_sub, nI_clamp, ib_nI, if_pos, if_neg, if_true, if_false, eq_self, ob, li_1]
/-! .. the model's -/
theorem m_of (M : Mem) {p w : Nat} (h : 8 + 7 * p + w < 148) : f_X7_of M (nI p) (nI w) = some (M.2 0 (8 + 7 * p + w)) := by
  simp (disch := omega) only [f_X7_of, li_0, li_1, li_2, li_3, li_4, li_5, li_6, li_7, li_8, li_9, li_10, li_11, li_12, li_16, li_20, li_23, li_24, li_30, li_32, li_35, li_37, li_40, li_42, li_46, li_48, li_53, li_57, li_58, li_59, li_60, li_63, li_64, li_65, li_97, li_99, li_100, li_101, li_120, li_126, li_132, li_148, li_300, li_999, li_1036, li_1184, li_9999, nn1, nI_leI, nI_ltI, nI_eq, nI_add, pk_mul, pk_sub, nI_clamp, ib_nI, if_pos, if_neg, if_true, if_false, eq_self, ob]
theorem m_sets (M : Mem) (v : Int32) {p w : Nat} (h : 8 + 7 * p + w < 148) : f_X7_sets M (nI p) (nI w) v = some (wrA M 0 (nI (8 + 7 * p + w)) v) := by
  simp (disch := omega) only [f_X7_sets, li_0, li_1, li_2, li_3, li_4, li_5, li_6, li_7, li_8, li_9, li_10, li_11, li_12, li_16, li_20, li_23, li_24, li_30, li_32, li_35, li_37, li_40, li_42, li_46, li_48, li_53, li_57, li_58, li_59, li_60, li_63, li_64, li_65, li_97, li_99, li_100, li_101, li_120, li_126, li_132, li_148, li_300, li_999, li_1036, li_1184, li_9999, nn1, nI_leI, nI_ltI, nI_eq, nI_add, pk_mul, pk_sub, nI_clamp, ib_nI, if_pos, if_neg, if_true, if_false, eq_self, ob]
theorem m_placeOf {M : Mem} {c : Nat} (hc : M.2 0 1 = nI c) (h : c ≤ 16) (x : Int32) : f_X7_placeOf M x = some (oi (fnd (fun p => decide (M.2 0 (8 + 7 * p + 0) = x)) c 0)) := by
  unfold f_X7_placeOf
  rw [li_0]
  refine (lpS (fun n i => f_X7_placeOf_L2 x M (some (-1)) n i) (some (-1)) (fun p => decide (M.2 0 (8 + 7 * p + 0) = x)) (fun j => some (nI j)) c ?_ ?_ c 40 0 (by omega) (by omega)).trans (fk_so _ _ _)
  · intro n
    simp (disch := omega) only [f_X7_placeOf_L2, hc, li_0, li_1, li_2, li_3, li_4, li_5, li_6, li_7, li_8, li_9, li_10, li_11, li_12, li_16, li_20, li_23, li_24, li_30, li_32, li_35, li_37, li_40, li_42, li_46, li_48, li_53, li_57, li_58, li_59, li_60, li_63, li_64, li_65, li_97, li_99, li_100, li_101, li_120, li_126, li_132, li_148, li_300, li_999, li_1036, li_1184, li_9999, nn1, nI_leI, nI_ltI, nI_eq, nI_add, pk_mul, pk_sub, nI_clamp, ib_nI, if_pos, if_neg, if_true, if_false, eq_self, ob]
  · intro n i hi
    simp (disch := omega) only [f_X7_placeOf_L2, hc, m_of, decide_eq_true_eq, li_0, li_1, li_2, li_3, li_4, li_5, li_6, li_7, li_8, li_9, li_10, li_11, li_12, li_16, li_20, li_23, li_24, li_30, li_32, li_35, li_37, li_40, li_42, li_46, li_48, li_53, li_57, li_58, li_59, li_60, li_63, li_64, li_65, li_97, li_99, li_100, li_101, li_120, li_126, li_132, li_148, li_300, li_999, li_1036, li_1184, li_9999, nn1, nI_leI, nI_ltI, nI_eq, nI_add, pk_mul, pk_sub, nI_clamp, ib_nI, if_pos, if_neg, if_true, if_false, eq_self, ob]
theorem m_inside {M : Mem} {c : Nat} (hc : M.2 0 1 = nI c) (h : c ≤ 16) (x : Int32) : f_X7_inside M x = some (oi (fnd (fun p => decide (M.2 0 (8 + 7 * p + 4) = x)) c 0)) := by
  unfold f_X7_inside
  rw [li_0]
  refine (lpS (fun n i => f_X7_inside_L2 x M (some (-1)) n i) (some (-1)) (fun p => decide (M.2 0 (8 + 7 * p + 4) = x)) (fun j => some (nI j)) c ?_ ?_ c 40 0 (by omega) (by omega)).trans (fk_so _ _ _)
  · intro n
    simp (disch := omega) only [f_X7_inside_L2, hc, li_0, li_1, li_2, li_3, li_4, li_5, li_6, li_7, li_8, li_9, li_10, li_11, li_12, li_16, li_20, li_23, li_24, li_30, li_32, li_35, li_37, li_40, li_42, li_46, li_48, li_53, li_57, li_58, li_59, li_60, li_63, li_64, li_65, li_97, li_99, li_100, li_101, li_120, li_126, li_132, li_148, li_300, li_999, li_1036, li_1184, li_9999, nn1, nI_leI, nI_ltI, nI_eq, nI_add, pk_mul, pk_sub, nI_clamp, ib_nI, if_pos, if_neg, if_true, if_false, eq_self, ob]
  · intro n i hi
    simp (disch := omega) only [f_X7_inside_L2, hc, m_of, decide_eq_true_eq, li_0, li_1, li_2, li_3, li_4, li_5, li_6, li_7, li_8, li_9, li_10, li_11, li_12, li_16, li_20, li_23, li_24, li_30, li_32, li_35, li_37, li_40, li_42, li_46, li_48, li_53, li_57, li_58, li_59, li_60, li_63, li_64, li_65, li_97, li_99, li_100, li_101, li_120, li_126, li_132, li_148, li_300, li_999, li_1036, li_1184, li_9999, nn1, nI_leI, nI_ltI, nI_eq, nI_add, pk_mul, pk_sub, nI_clamp, ib_nI, if_pos, if_neg, if_true, if_false, eq_self, ob]
theorem m_many {M : Mem} {c w : Nat} (hc : M.2 0 1 = nI c) (h : c ≤ 16) (hw : w < 7) : f_X7_many M (nI w) = some (sI (fun p => M.2 0 (8 + 7 * p + w)) c) := by
  unfold f_X7_many
  rw [li_0]
  refine lpA (fun n i a => f_X7_many_L4 (nI w) M (fun y => some y) n a i) (fun y => some y) (fun p => M.2 0 (8 + 7 * p + w)) c ?_ ?_ (by omega)
  · intro n a
    simp (disch := omega) only [f_X7_many_L4, hc, li_0, li_1, li_2, li_3, li_4, li_5, li_6, li_7, li_8, li_9, li_10, li_11, li_12, li_16, li_20, li_23, li_24, li_30, li_32, li_35, li_37, li_40, li_42, li_46, li_48, li_53, li_57, li_58, li_59, li_60, li_63, li_64, li_65, li_97, li_99, li_100, li_101, li_120, li_126, li_132, li_148, li_300, li_999, li_1036, li_1184, li_9999, nn1, nI_leI, nI_ltI, nI_eq, nI_add, pk_mul, pk_sub, nI_clamp, ib_nI, if_pos, if_neg, if_true, if_false, eq_self, ob]
  · intro n i a hi
    simp (disch := omega) only [f_X7_many_L4, hc, m_of, li_0, li_1, li_2, li_3, li_4, li_5, li_6, li_7, li_8, li_9, li_10, li_11, li_12, li_16, li_20, li_23, li_24, li_30, li_32, li_35, li_37, li_40, li_42, li_46, li_48, li_53, li_57, li_58, li_59, li_60, li_63, li_64, li_65, li_97, li_99, li_100, li_101, li_120, li_126, li_132, li_148, li_300, li_999, li_1036, li_1184, li_9999, nn1, nI_leI, nI_ltI, nI_eq, nI_add, pk_mul, pk_sub, nI_clamp, ib_nI, if_pos, if_neg, if_true, if_false, eq_self, ob]
theorem m_worth (M : Mem) {p : Nat} (h : p < 16) : f_X7_worth M (nI p) = some (M.2 0 (8 + 7 * p + 2) * M.2 0 (8 + 7 * p + 3)) := by
  simp (disch := omega) only [f_X7_worth, m_of, li_0, li_1, li_2, li_3, li_4, li_5, li_6, li_7, li_8, li_9, li_10, li_11, li_12, li_16, li_20, li_23, li_24, li_30, li_32, li_35, li_37, li_40, li_42, li_46, li_48, li_53, li_57, li_58, li_59, li_60, li_63, li_64, li_65, li_97, li_99, li_100, li_101, li_120, li_126, li_132, li_148, li_300, li_999, li_1036, li_1184, li_9999, nn1, nI_leI, nI_ltI, nI_eq, nI_add, pk_mul, pk_sub, nI_clamp, ib_nI, if_pos, if_neg, if_true, if_false, eq_self, ob]
