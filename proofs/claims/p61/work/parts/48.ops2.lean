/-! open, wet, move, addLot, queue, audit, bond, release -/
section OPS2
variable {S M : Mem} {N : Nat}
theorem op_open (s : St N S (M.2 0)) (x : Int32) : Op N S M [(-1, 1), (-4, 2)] (f_X4_openLot S x) (f_X7_opens M x) := by
  obtain ⟨c, t, q, R, I, D⟩ := s
  have hc := R.c
  rcases fnd_at (g := S.2 0) (x := x) (c := c) with ⟨h1, h2⟩ | ⟨p, h1, h2, h3, h4⟩
  · refine Or.inl ⟨(-1, 1), by simp, ?_, ?_⟩
    · simp (disch := omega) only [f_X4_openLot, c_slotWith R.c1 R.c, h1, oi_n, m1_le, nI_leI, nI_ltI, nI_eq, nI_add, pk_mul, pk_sub, nI_clamp, ib_nI, if_pos, if_neg, if_true, if_false, eq_self, ob, li_0]
    · simp (disch := omega) only [f_X7_opens, r_placeOf R, h1, oi_n, nI_leI, nI_ltI, nI_eq, nI_add, pk_mul, pk_sub, nI_clamp, ib_nI, if_pos, if_neg, if_true, if_false, eq_self, ob]
  · have L := I.1.1 p h2
    rcases L.2.2.2.2.1 with e5 | e5
    · refine Or.inl ⟨(-4, 2), by simp, ?_, ?_⟩
      · simp (disch := omega) only [f_X4_openLot, c_slotWith R.c1 R.c, h1, oi_s, e5, nI_leI, nI_ltI, nI_eq, nI_add, pk_mul, pk_sub, nI_clamp, ib_nI, if_pos, if_neg, if_true, if_false, eq_self, ob, nI_pos']
      · have e5' : S.2 5 p = nI 0 := e5
        simp (disch := omega) only [f_X7_opens, r_placeOf R, h1, oi_s, nI_m1, nI_m1', m1_lt, m1_lt', m1_le, m1_le', n01, n10, n1z, n1z', n11, li_0, li_1, li_2, li_3, li_5, li_6, r_of R, e5', n01, nI_leI, nI_ltI, nI_eq, nI_add, pk_mul, pk_sub, nI_clamp, ib_nI, if_pos, if_neg, if_true, if_false, eq_self, ob]
    · have R' := R.set h2 (j := 5) (by omega) 0
      have I' : Inv (wrA S 5 (nI p) 0) c t q := by
        refine I.set R.c h2 (by omega) (by omega) ?_ (fun h => absurd h (by omega))
        obtain ⟨l1, l2, l3, l4, l5, l6, l7⟩ := L
        unfold lotOK
        simp (disch := omega) only [wr_at]
        exact ⟨l1, l2, l3, l4, Or.inl rfl, l6, fun h => absurd (show (0 : Int32) = 1 from h) (by decide)⟩
      obtain ⟨r, hr, er⟩ := sI_flag c (fun p hp => (I'.1.1 p hp).2.2.2.2.1)
      obtain ⟨k1, k2⟩ := r_sealed R' I'.1
      rw [er] at k1 k2
      refine Or.inr ⟨r, wrA S 5 (nI p) 0, wrI (wrA M 0 (nI (8 + 7 * p + 5)) 0) 7 (nI r), by omega, ?_, ?_, by rw [wrI_1, if_pos rfl], Fm.set _ _ _ _, c, t, q, R', I', (D.set (by omega) (by omega)).mono (by omega)⟩
      · have h0 : ¬ ((1 : Int32) = 0) := by decide
        simp (disch := omega) only [f_X4_openLot, c_slotWith R.c1 R.c, h1, oi_s, e5, h0, vn0, k1, nI_leI, nI_ltI, nI_eq, nI_add, pk_mul, pk_sub, nI_clamp, ib_nI, if_pos, if_neg, if_true, if_false, eq_self, ob, nI_pos']
      · have e5' : S.2 5 p = nI 1 := e5
        have k2' : f_X7_many (wrA M 0 (nI (8 + 7 * p + 5)) (nI 0)) (nI 5) = some (nI r) := k2
        simp (disch := omega) only [f_X7_opens, r_placeOf R, h1, oi_s, nI_m1, nI_m1', m1_lt, m1_lt', m1_le, m1_le', n01, n10, n1z, n1z', n11, li_0, li_1, li_2, li_3, li_5, li_6, r_of R, e5', n10, m_sets, k2', f_X7_done, nI_leI, nI_ltI, nI_eq, nI_add, pk_mul, pk_sub, nI_clamp, ib_nI, if_pos, if_neg, if_true, if_false, eq_self, ob]
theorem op_wet (s : St N S (M.2 0)) (x : Int32) : Op N S M [(-1, 1), (-4, 2)] (f_X4_wetLot S x) (f_X7_wets M x) := by
  obtain ⟨c, t, q, R, I, D⟩ := s
  have hc := R.c
  rcases fnd_at (g := S.2 0) (x := x) (c := c) with ⟨h1, h2⟩ | ⟨p, h1, h2, h3, h4⟩
  · refine Or.inl ⟨(-1, 1), by simp, ?_, ?_⟩
    · simp (disch := omega) only [f_X4_wetLot, c_slotWith R.c1 R.c, h1, oi_n, m1_le, nI_leI, nI_ltI, nI_eq, nI_add, pk_mul, pk_sub, nI_clamp, ib_nI, if_pos, if_neg, if_true, if_false, eq_self, ob, li_0]
    · simp (disch := omega) only [f_X7_wets, r_placeOf R, h1, oi_n, nI_leI, nI_ltI, nI_eq, nI_add, pk_mul, pk_sub, nI_clamp, ib_nI, if_pos, if_neg, if_true, if_false, eq_self, ob]
  · have L := I.1.1 p h2
    have h0 : ¬ ((1 : Int32) = 0) := by decide
    rcases L.2.2.2.2.1 with e5 | e5
    · have e5' : S.2 5 p = nI 0 := e5
      rcases L.2.2.2.2.2.1 with e6 | e6
      · have R' := R.set h2 (j := 6) (by omega) 1
        have I' : Inv (wrA S 6 (nI p) 1) c t q := by
          refine I.set R.c h2 (by omega) (by omega) ?_ (fun h => absurd h (by omega))
          obtain ⟨l1, l2, l3, l4, l5, l6, l7⟩ := L
          unfold lotOK
          simp (disch := omega) only [wr_at]
          exact ⟨l1, l2, l3, l4, l5, Or.inr rfl, fun h => absurd (e5.symm.trans h) (by decide)⟩
        obtain ⟨r, hr, er⟩ := sI_flag c (fun p hp => (I'.1.1 p hp).2.2.2.2.2.1)
        obtain ⟨k1, k2⟩ := r_damp R' I'.1
        rw [er] at k1 k2
        refine Or.inr ⟨r, wrA S 6 (nI p) 1, wrI (wrA M 0 (nI (8 + 7 * p + 6)) 1) 7 (nI r), by omega, ?_, ?_, by rw [wrI_1, if_pos rfl], Fm.set _ _ _ _, c, t, q, R', I', (D.set (by omega) (by omega)).mono (by omega)⟩
        · simp (disch := omega) only [f_X4_wetLot, c_slotWith R.c1 R.c, h1, oi_s, e5, e6, vn1, k1, nI_leI, nI_ltI, nI_eq, nI_add, pk_mul, pk_sub, nI_clamp, ib_nI, if_pos, if_neg, if_true, if_false, eq_self, ob, nI_pos']
        · have e6' : S.2 6 p = nI 0 := e6
          have k2' : f_X7_many (wrA M 0 (nI (8 + 7 * p + 6)) (nI 1)) (nI 6) = some (nI r) := k2
          simp (disch := omega) only [f_X7_wets, r_placeOf R, h1, oi_s, nI_m1, nI_m1', m1_lt, m1_lt', m1_le, m1_le', n01, n10, n1z, n1z', n11, li_1, li_2, li_3, li_5, li_6, r_of R, e5', e6', n01, m_sets, k2', f_X7_done, nI_leI, nI_ltI, nI_eq, nI_add, pk_mul, pk_sub, nI_clamp, ib_nI, if_pos, if_neg, if_true, if_false, eq_self, ob]
      · refine Or.inl ⟨(-4, 2), by simp, ?_, ?_⟩
        · simp (disch := omega) only [f_X4_wetLot, c_slotWith R.c1 R.c, h1, oi_s, e5, e6, h0, nI_leI, nI_ltI, nI_eq, nI_add, pk_mul, pk_sub, nI_clamp, ib_nI, if_pos, if_neg, if_true, if_false, eq_self, ob, nI_pos']
        · have e6' : S.2 6 p = nI 1 := e6
          simp (disch := omega) only [f_X7_wets, r_placeOf R, h1, oi_s, nI_m1, nI_m1', m1_lt, m1_lt', m1_le, m1_le', n01, n10, n1z, n1z', n11, li_1, li_2, li_3, li_5, li_6, r_of R, e5', e6', n01, nI_leI, nI_ltI, nI_eq, nI_add, pk_mul, pk_sub, nI_clamp, ib_nI, if_pos, if_neg, if_true, if_false, eq_self, ob]
    · refine Or.inl ⟨(-4, 2), by simp, ?_, ?_⟩
      · simp (disch := omega) only [f_X4_wetLot, c_slotWith R.c1 R.c, h1, oi_s, e5, h0, nI_leI, nI_ltI, nI_eq, nI_add, pk_mul, pk_sub, nI_clamp, ib_nI, if_pos, if_neg, if_true, if_false, eq_self, ob, nI_pos']
      · have e5' : S.2 5 p = nI 1 := e5
        simp (disch := omega) only [f_X7_wets, r_placeOf R, h1, oi_s, nI_m1, nI_m1', m1_lt, m1_lt', m1_le, m1_le', n01, n10, n1z, n1z', n11, li_1, li_2, li_3, li_5, li_6, r_of R, e5', n01, nI_leI, nI_ltI, nI_eq, nI_add, pk_mul, pk_sub, nI_clamp, ib_nI, if_pos, if_neg, if_true, if_false, eq_self, ob]
/-- ranges -/
theorem inR_of {x : Int32} {lo hi : Nat} (h1 : ¬ x < nI lo) (h2 : ¬ nI hi < x) (h : hi < 2 ^ 31) (h0 : lo < 2 ^ 31) : inR x lo hi := by
  rw [Int32.lt_iff_toInt_lt, nI_toInt h0] at h1
  rw [Int32.lt_iff_toInt_lt, nI_toInt h] at h2
  refine ⟨x.toInt.toNat, by omega, by omega, Int32.toInt_inj.mp ?_⟩
  rw [nI_toInt (by omega)]
  omega
theorem in_cases (x : Int32) (lo hi : Nat) (h0 : lo < 2 ^ 31) (h : hi < 2 ^ 31) : (f_X7_in x (nI lo) (nI hi) = some 0 ∧ (x < nI lo ∨ nI hi < x)) ∨ (f_X7_in x (nI lo) (nI hi) = some 1 ∧ inR x lo hi) := by
  unfold f_X7_in
  by_cases a : x < nI lo
  · exact Or.inl ⟨by rw [if_pos a], Or.inl a⟩
  · by_cases b : nI hi < x
    · exact Or.inl ⟨by rw [if_neg a, if_pos b], Or.inr b⟩
    · exact Or.inr ⟨by rw [if_neg a, if_neg b], inR_of a b h h0⟩
theorem bay_cases (x : Int32) : (f_X6_isBay x = some 0 ∧ f_X7_isBay x = some 0 ∧ (x < nI 0 ∨ nI 24 ≤ x)) ∨ (f_X6_isBay x = some 1 ∧ f_X7_isBay x = some 1 ∧ inR x 0 23) := by
  have e : nI 24 ≤ x ↔ nI 23 < x := by
    rw [Int32.le_iff_toInt_le, Int32.lt_iff_toInt_lt, nI_toInt (by omega), nI_toInt (by omega)]
    omega
  unfold f_X6_isBay f_X7_isBay
  rcases in_cases x 0 23 (by omega) (by omega) with ⟨h1, h2⟩ | ⟨h1, h2⟩
  · refine Or.inl ⟨?_, ?_, ?_⟩
    · rw [li_0, li_24]
      rcases h2 with h2 | h2
      · rw [if_pos h2]
      · rw [if_pos (e.mpr h2)]
        split <;> rfl
    · rw [li_0, li_23, h1, ob, vn0, if_pos rfl]
      rfl
    · rcases h2 with h2 | h2
      · exact Or.inl h2
      · exact Or.inr (e.mpr h2)
  · refine Or.inr ⟨?_, ?_, h2⟩
    · obtain ⟨n, h3, h4, rfl⟩ := h2
      simp (disch := omega) only [li_0, li_1, li_2, li_3, li_4, li_5, li_6, li_7, li_8, li_9, li_10, li_11, li_12, li_16, li_20, li_23, li_24, li_30, li_32, li_35, li_37, li_40, li_42, li_46, li_48, li_53, li_57, li_58, li_59, li_60, li_63, li_64, li_65, li_97, li_99, li_100, li_101, li_120, li_126, li_132, li_148, li_300, li_999, li_1036, li_1184, li_9999, nn1, nI_leI, nI_ltI, nI_eq, nI_add, pk_mul, pk_sub, nI_clamp, ib_nI, if_pos, if_neg, if_true, if_false, eq_self, ob]
    · rw [li_0, li_23, h1, ob, vn1, if_pos rfl]
theorem kind_cases (x : Int32) : (f_X6_isKind x = some 0 ∧ f_X7_isKind x = some 0 ∧ (x < nI 97 ∨ nI 101 < x)) ∨ (f_X6_isKind x = some 1 ∧ f_X7_isKind x = some 1 ∧ inR x 97 101) := by
  have e : f_X6_isKind x = f_X7_in x (nI 97) (nI 101) := rfl
  unfold f_X7_isKind
  rw [e, li_97, li_101]
  rcases in_cases x 97 101 (by omega) (by omega) with ⟨h1, h2⟩ | ⟨h1, h2⟩
  · exact Or.inl ⟨h1, by rw [h1, ob, vn0, if_pos rfl], h2⟩
  · exact Or.inr ⟨h1, by rw [h1, ob, vn1, if_pos rfl], h2⟩
theorem op_move (s : St N S (M.2 0)) (x b : Int32) : Op N S M [(-1, 1), (-2, 2), (-5, 3)] (f_X4_moveLot S x b) (f_X7_moves M x b) := by
  obtain ⟨c, t, q, R, I, D⟩ := s
  have hc := R.c
  have n0 : (1 : Int32) ≠ 0 := by decide
  have n0' : ¬ ((1 : Int32) = nI 0) := by decide
  rcases fnd_at (g := S.2 0) (x := x) (c := c) with ⟨h1, h2⟩ | ⟨p, h1, h2, h3, h4⟩
  · refine Or.inl ⟨(-1, 1), by simp, ?_, ?_⟩
    · simp (disch := omega) only [f_X4_moveLot, c_slotWith R.c1 R.c, h1, oi_n, m1_le, nI_leI, nI_ltI, nI_eq, nI_add, pk_mul, pk_sub, nI_clamp, ib_nI, if_pos, if_neg, if_true, if_false, eq_self, ob, li_0]
    · simp (disch := omega) only [f_X7_moves, r_placeOf R, h1, oi_n, nI_leI, nI_ltI, nI_eq, nI_add, pk_mul, pk_sub, nI_clamp, ib_nI, if_pos, if_neg, if_true, if_false, eq_self, ob]
  · rcases bay_cases b with ⟨b1, b2, b3⟩ | ⟨b1, b2, b3⟩
    · refine Or.inl ⟨(-2, 2), by simp, ?_, ?_⟩
      · simp (disch := omega) only [f_X4_moveLot, c_slotWith R.c1 R.c, h1, oi_s, b1, nI_leI, nI_ltI, nI_eq, nI_add, pk_mul, pk_sub, nI_clamp, ib_nI, if_pos, if_neg, if_true, if_false, eq_self, ob, nI_pos']
      · simp (disch := omega) only [f_X7_moves, r_placeOf R, h1, oi_s, nI_m1, nI_m1', m1_lt, m1_lt', m1_le, m1_le', n01, n10, n1z, n1z', n11, b2, nI_leI, nI_ltI, nI_eq, nI_add, pk_mul, pk_sub, nI_clamp, ib_nI, if_pos, if_neg, if_true, if_false, eq_self, ob]
    · rcases fnd_at (g := S.2 4) (x := b) (c := c) with ⟨g1, g2⟩ | ⟨p', g1, g2, g3, g4⟩
      · have L := I.1.1 p h2
        obtain ⟨e4, -, l4⟩ := L.2.2.2.1.nn (by omega)
        have R' := R.set h2 (j := 4) (by omega) b
        have I' : Inv (wrA S 4 (nI p) b) c t q := by
          refine I.set R.c h2 (by omega) (by omega) ?_ (fun _ p' hp' _ => g2 p' hp')
          obtain ⟨l1, l2, l3, l4, l5, l6, l7⟩ := L
          unfold lotOK
          simp (disch := omega) only [wr_at]
          exact ⟨l1, l2, l3, b3, l5, l6, l7⟩
        refine Or.inr ⟨nv (S.2 4 p), wrA S 4 (nI p) b, wrI (wrA M 0 (nI (8 + 7 * p + 4)) b) 7 (nI (nv (S.2 4 p))), by omega, ?_, ?_, by rw [wrI_1, if_pos rfl], Fm.set _ _ _ _, c, t, q, R', I', (D.set (by omega) (by omega)).mono (by omega)⟩
        · rw [← e4]
          simp (disch := omega) only [f_X4_moveLot, c_slotWith R.c1 R.c, c_slotAt R.c1 R.c, h1, g1, oi_s, oi_n, b1, n0', nI_leI, nI_ltI, nI_eq, nI_add, pk_mul, pk_sub, nI_clamp, ib_nI, if_pos, if_neg, if_true, if_false, eq_self, ob, nI_pos', li_0, m1_lt]
        · rw [← e4]
          simp (disch := omega) only [f_X7_moves, r_placeOf R, r_inside R, h1, g1, oi_s, oi_n, nI_m1, nI_m1', m1_lt, m1_lt', m1_le, m1_le', n01, n10, n1z, n1z', n11, b2, n0, li_4, r_of R, m_sets, f_X7_done, nI_leI, nI_ltI, nI_eq, nI_add, pk_mul, pk_sub, nI_clamp, ib_nI, if_pos, if_neg, if_true, if_false, eq_self, ob]
      · refine Or.inl ⟨(-5, 3), by simp, ?_, ?_⟩
        · simp (disch := omega) only [f_X4_moveLot, c_slotWith R.c1 R.c, c_slotAt R.c1 R.c, h1, g1, oi_s, b1, n0, nI_leI, nI_ltI, nI_eq, nI_add, pk_mul, pk_sub, nI_clamp, ib_nI, if_pos, if_neg, if_true, if_false, eq_self, ob, nI_pos', nI_pos]
        · simp (disch := omega) only [f_X7_moves, r_placeOf R, r_inside R, h1, g1, oi_s, nI_m1, nI_m1', m1_lt, m1_lt', m1_le, m1_le', n01, n10, n1z, n1z', n11, b2, n0, nI_leI, nI_ltI, nI_eq, nI_add, pk_mul, pk_sub, nI_clamp, ib_nI, if_pos, if_neg, if_true, if_false, eq_self, ob]
end OPS2
