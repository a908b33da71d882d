/-! what calls answer that change nothing -/
def FmR (M M' : Mem) : Prop := (∀ k, k ≠ 0 → M'.1 k = M.1 k) ∧ (∀ y, y < 148 → M'.2 0 y = M.2 0 y) ∧ ∀ j y, j ≠ 0 → j ≠ 4 → j ≠ 8 → j ≠ 9 → M'.2 j y = M.2 j y
def Val (M : Mem) (v : Int32) (fm : Option (Int32 × Mem)) : Prop := ∃ M', fm = some (v, M') ∧ M'.1 0 = nI 0 ∧ FmR M M'
def Thr (M : Mem) (k : Nat) (fm : Option (Int32 × Mem)) : Prop := ∃ b M', fm = some (b, M') ∧ M'.1 0 = nI k ∧ FmR M M'
theorem Val.of {M : Mem} {v : Int32} {fm : Option (Int32 × Mem)} (h : fm = some (v, wrI M 0 (nI 0))) : Val M v fm := ⟨_, h, by rw [wrI_1, if_pos rfl], fun k hk => by rw [wrI_1, if_neg hk], fun _ _ => rfl, fun _ _ _ _ _ _ => rfl⟩
theorem Thr.of {M : Mem} {k : Nat} {fm : Option (Int32 × Mem)} (b : Int32) (h : fm = some (b, wrI M 0 (nI k))) : Thr M k fm := ⟨b, _, h, by rw [wrI_1, if_pos rfl], fun j hj => by rw [wrI_1, if_neg hj], fun _ _ => rfl, fun _ _ _ _ _ _ => rfl⟩
/-- an index -/
theorem ix_cases (x : Int32) {n : Nat} (hn : n < 2 ^ 30) : ((x < 0 ∨ nI n ≤ x) ∧ f_X7_in x (nI 0) (nI n - nI 1) = some 0) ∨ ∃ k, k < n ∧ x = nI k ∧ f_X7_in x (nI 0) (nI n - nI 1) = some 1 := by
  have e : (nI n - nI 1).toInt = (n : Int) - 1 := pk_sub_toInt hn (by omega)
  have hl : nI n ≤ x ↔ (n : Int) ≤ x.toInt := by rw [Int32.le_iff_toInt_le, nI_toInt (by omega)]
  have h0 : x < nI 0 ↔ x.toInt < 0 := by
    rw [Int32.lt_iff_toInt_lt, nI_toInt (by omega)]
    exact Iff.rfl
  have hh : nI n - nI 1 < x ↔ (n : Int) - 1 < x.toInt := by rw [Int32.lt_iff_toInt_lt, e]
  unfold f_X7_in
  by_cases a : x < nI 0
  · exact Or.inl ⟨Or.inl a, by rw [if_pos a]⟩
  · by_cases b : nI n ≤ x
    · refine Or.inl ⟨Or.inr b, ?_⟩
      rw [if_neg a, if_pos (by rw [hh]; rw [hl] at b; omega)]
    · refine Or.inr ⟨x.toInt.toNat, ?_, ?_, ?_⟩
      · rw [hl] at b
        rw [h0] at a
        omega
      · rw [hl] at b
        rw [h0] at a
        apply Int32.toInt_inj.mp
        rw [nI_toInt (by omega)]
        omega
      · rw [if_neg a, if_neg (by rw [hh]; rw [hl] at b; omega)]
def Asks (S M : Mem) (x : Int32) (v : Nat → Int32) (fm : Option (Int32 × Mem)) : Prop := (f_X3_slotWith S x = some (-1) ∧ Thr M 1 fm) ∨ ∃ p, p < 16 ∧ f_X3_slotWith S x = some (nI p) ∧ Val M (v p) fm
section ASKS
variable {S M : Mem} {N : Nat}
theorem asked (s : St N S (M.2 0)) (x : Int32) : (f_X3_slotWith S x = some (-1) ∧ ∀ w, f_X7_asked M x w = some (0, wrI M 0 (nI 1))) ∨ ∃ p c t q, p < c ∧ c ≤ 16 ∧ Rel S (M.2 0) c t q ∧ Inv S c t q ∧ f_X3_slotWith S x = some (nI p) ∧ plc S c x = some p ∧ ∀ w, w < 7 → f_X7_asked M x (nI w) = some (S.2 w p, wrI M 0 (nI 0)) := by
  obtain ⟨c, t, q, R, I, D⟩ := s
  have hc := R.c
  have hp := r_placeOf R x
  rcases fnd_at (g := S.2 0) (x := x) (c := c) with ⟨h1, h2⟩ | ⟨p, h1, h2, h3, h4⟩
  · refine Or.inl ⟨by rw [c_slotWith R.c1 R.c, h1]; rfl, fun w => ?_⟩
    rw [show plc S c x = none from h1] at hp
    rw [f_X7_asked, hp, ob, oi_n, if_pos rfl]
    rfl
  · refine Or.inr ⟨p, c, t, q, h2, hc, R, I, by rw [c_slotWith R.c1 R.c, h1]; rfl, h1, fun w hw => ?_⟩
    rw [show plc S c x = some p from h1] at hp
    have h5 : f_X7_of (wrI M 0 0) (nI p) (nI w) = some (S.2 w p) := r_of (M := wrI M 0 0) R h2 hw
    rw [f_X7_asked, hp, ob, oi_s, if_neg (by rw [nI_m1 (by omega)]; exact id), h5, ob]
    rfl
theorem q_kind (s : St N S (M.2 0)) (x : Int32) : Asks S M x (S.2 1) (f_X7_kind M x) := by
  rcases asked s x with ⟨h1, h2⟩ | ⟨p, c, t, q, hp, hc, R, I, h1, -, h2⟩
  · exact Or.inl ⟨h1, Thr.of _ (by rw [f_X7_kind, h2, ob])⟩
  · refine Or.inr ⟨p, by omega, h1, Val.of ?_⟩
    obtain ⟨k, _, hk, ek⟩ := (I.1.1 p hp).1
    rw [f_X7_kind, li_1, h2 1 (by omega), ob, ek]
    have : ((nI k).toUInt32 % 65536).toInt32 = nI k := by
      rw [pk_char, pk_tn (by omega), Nat.mod_eq_of_lt (by omega)]
    simp only [this]
theorem q_quantity (s : St N S (M.2 0)) (x : Int32) : Asks S M x (S.2 2) (f_X7_quantity M x) := by
  rcases asked s x with ⟨h1, h2⟩ | ⟨p, c, t, q, hp, hc, R, I, h1, -, h2⟩
  · exact Or.inl ⟨h1, Thr.of _ (by rw [f_X7_quantity, h2, ob])⟩
  · exact Or.inr ⟨p, by omega, h1, Val.of (by rw [f_X7_quantity, li_2, h2 2 (by omega), ob])⟩
theorem q_price (s : St N S (M.2 0)) (x : Int32) : Asks S M x (S.2 3) (f_X7_price M x) := by
  rcases asked s x with ⟨h1, h2⟩ | ⟨p, c, t, q, hp, hc, R, I, h1, -, h2⟩
  · exact Or.inl ⟨h1, Thr.of _ (by rw [f_X7_price, h2, ob])⟩
  · exact Or.inr ⟨p, by omega, h1, Val.of (by rw [f_X7_price, li_3, h2 3 (by omega), ob])⟩
theorem q_bay (s : St N S (M.2 0)) (x : Int32) : Asks S M x (S.2 4) (f_X7_bay M x) := by
  rcases asked s x with ⟨h1, h2⟩ | ⟨p, c, t, q, hp, hc, R, I, h1, -, h2⟩
  · exact Or.inl ⟨h1, Thr.of _ (by rw [f_X7_bay, h2, ob])⟩
  · exact Or.inr ⟨p, by omega, h1, Val.of (by rw [f_X7_bay, li_4, h2 4 (by omega), ob])⟩
theorem q_value (s : St N S (M.2 0)) (x : Int32) : Asks S M x (fun p => S.2 2 p * S.2 3 p) (f_X7_value M x) := by
  have s1 : ∀ v, St N S ((wrI M 0 v).2 0) := fun _ => s
  rcases asked s x with ⟨h1, h2⟩ | ⟨p, c, t, q, hp, hc, R, I, h1, h9, h2⟩
  · rcases asked (s1 (nI 1)) x with ⟨-, g2⟩ | ⟨p, c, t, q, hp, hc, R, I, g1, -, g2⟩
    · exact Or.inl ⟨h1, Thr.of (0 * 0) (by simp only [f_X7_value, h2, ob, g2, wrI_wrI])⟩
    · rw [h1] at g1
      have := Option.some.inj g1
      exact absurd this.symm (by rw [nI_m1 (by omega)]; exact id)
  · rcases asked (s1 (nI 0)) x with ⟨g1, -⟩ | ⟨p', c', t', q', hp', hc', R', I', g1, -, g2⟩
    · rw [h1] at g1
      have := Option.some.inj g1
      exact absurd this (by rw [nI_m1 (by omega)]; exact id)
    · have hpp : p = p' := by
        rw [h1] at g1
        have := Option.some.inj g1
        rw [nI_eq (by omega) (by omega)] at this
        exact this
      subst hpp
      refine Or.inr ⟨p, by omega, h1, Val.of ?_⟩
      simp only [f_X7_value, li_2, li_3, h2 2 (by omega), ob, g2 3 (by omega), wrI_wrI]
theorem flag_val {x : Int32} {M : Mem} (h : x = 0 ∨ x = 1) : (if x = 1 then some ((1 : Int32), M) else some (0, M)) = some (x, M) := by
  rcases h with h | h <;> rw [h] <;> rfl
theorem q_sealed (s : St N S (M.2 0)) (x : Int32) : Asks S M x (S.2 5) (f_X7_isSealed M x) := by
  rcases asked s x with ⟨h1, h2⟩ | ⟨p, c, t, q, hp, hc, R, I, h1, -, h2⟩
  · exact Or.inl ⟨h1, Thr.of 0 (by rw [f_X7_isSealed, h2, ob]; rfl)⟩
  · exact Or.inr ⟨p, by omega, h1, Val.of (by rw [f_X7_isSealed, li_5, h2 5 (by omega), ob]; exact flag_val (I.1.1 p hp).2.2.2.2.1)⟩
theorem q_damp (s : St N S (M.2 0)) (x : Int32) : Asks S M x (S.2 6) (f_X7_isDamp M x) := by
  rcases asked s x with ⟨h1, h2⟩ | ⟨p, c, t, q, hp, hc, R, I, h1, -, h2⟩
  · exact Or.inl ⟨h1, Thr.of 0 (by rw [f_X7_isDamp, h2, ob]; rfl)⟩
  · exact Or.inr ⟨p, by omega, h1, Val.of (by rw [f_X7_isDamp, li_6, h2 6 (by omega), ob]; exact flag_val (I.1.1 p hp).2.2.2.2.2.1)⟩
theorem q_duty (s : St N S (M.2 0)) (x : Int32) : (f_X3_slotWith S x = some (-1) ∧ Thr M 1 (f_X7_duty M x)) ∨ ∃ p r, p < 16 ∧ f_X3_slotWith S x = some (nI p) ∧ f_X4_dutyOf S (nI p) = some r ∧ Val M r (f_X7_duty M x) := by
  obtain ⟨c, t, q, R, I, D⟩ := s
  have hc := R.c
  have hp := r_placeOf R x
  rcases fnd_at (g := S.2 0) (x := x) (c := c) with ⟨h1, h2⟩ | ⟨p, h1, h2, h3, h4⟩
  · refine Or.inl ⟨by rw [c_slotWith R.c1 R.c, h1]; rfl, Thr.of 0 ?_⟩
    rw [show plc S c x = none from h1] at hp
    rw [f_X7_duty, hp, ob, oi_n, if_pos rfl]
    rfl
  · refine Or.inr ⟨p, _, by omega, by rw [c_slotWith R.c1 R.c, h1]; rfl, c_dutyOf I.2.1 I.1 hc h2, Val.of ?_⟩
    rw [show plc S c x = some p from h1] at hp
    have h5 : f_X7_owed (wrI M 0 0) (nI p) = some (nI (owe S t p)) := r_owed (M := wrI M 0 0) R I.2.1 I.1 h2
    rw [f_X7_duty, hp, ob, oi_s, if_neg (by rw [nI_m1 (by omega)]; exact id), h5, ob]
    rfl
/-- the plain numbers -/
theorem q_nums (s : St N S (M.2 0)) : Val M (S.1 0) (f_X7_lotCount M) ∧ Val M (S.1 2) (f_X7_stepCount M) ∧ Val M (S.1 5) (f_X7_day M) ∧ Val M (S.1 6) (f_X7_destroyedCount M) ∧ Val M (S.1 7) (f_X7_queueLength M) ∧ Val M (S.1 3) (f_X7_bond M) ∧ Val M (S.1 4) (f_X7_collected M) := by
  obtain ⟨c, t, q, R, I, D⟩ := s
  obtain ⟨n3, n4, n5, n6⟩ := R.nums
  refine ⟨Val.of ?_, Val.of ?_, Val.of ?_, Val.of ?_, Val.of ?_, Val.of ?_, Val.of ?_⟩
  · simp (disch := omega) only [f_X7_lotCount, R.c1, R.c2, li_0, li_1, li_2, li_3, li_4, li_5, li_6, li_7, li_8, li_9, li_10, li_11, li_12, li_16, li_20, li_23, li_24, li_30, li_32, li_35, li_37, li_40, li_42, li_46, li_48, li_53, li_57, li_58, li_59, li_60, li_63, li_64, li_65, li_97, li_99, li_100, li_101, li_120, li_126, li_132, li_148, li_300, li_999, li_1036, li_1184, li_9999, nn1, nI_leI, nI_ltI, nI_eq, nI_add, pk_mul, pk_sub, nI_clamp, ib_nI, if_pos, if_neg, if_true, if_false, eq_self, ob]
  · simp (disch := omega) only [f_X7_stepCount, R.t1, R.t2, li_0, li_1, li_2, li_3, li_4, li_5, li_6, li_7, li_8, li_9, li_10, li_11, li_12, li_16, li_20, li_23, li_24, li_30, li_32, li_35, li_37, li_40, li_42, li_46, li_48, li_53, li_57, li_58, li_59, li_60, li_63, li_64, li_65, li_97, li_99, li_100, li_101, li_120, li_126, li_132, li_148, li_300, li_999, li_1036, li_1184, li_9999, nn1, nI_leI, nI_ltI, nI_eq, nI_add, pk_mul, pk_sub, nI_clamp, ib_nI, if_pos, if_neg, if_true, if_false, eq_self, ob]
  · simp (disch := omega) only [f_X7_day, n3, li_0, li_1, li_2, li_3, li_4, li_5, li_6, li_7, li_8, li_9, li_10, li_11, li_12, li_16, li_20, li_23, li_24, li_30, li_32, li_35, li_37, li_40, li_42, li_46, li_48, li_53, li_57, li_58, li_59, li_60, li_63, li_64, li_65, li_97, li_99, li_100, li_101, li_120, li_126, li_132, li_148, li_300, li_999, li_1036, li_1184, li_9999, nn1, nI_leI, nI_ltI, nI_eq, nI_add, pk_mul, pk_sub, nI_clamp, ib_nI, if_pos, if_neg, if_true, if_false, eq_self, ob]
  · simp (disch := omega) only [f_X7_destroyedCount, n6, li_0, li_1, li_2, li_3, li_4, li_5, li_6, li_7, li_8, li_9, li_10, li_11, li_12, li_16, li_20, li_23, li_24, li_30, li_32, li_35, li_37, li_40, li_42, li_46, li_48, li_53, li_57, li_58, li_59, li_60, li_63, li_64, li_65, li_97, li_99, li_100, li_101, li_120, li_126, li_132, li_148, li_300, li_999, li_1036, li_1184, li_9999, nn1, nI_leI, nI_ltI, nI_eq, nI_add, pk_mul, pk_sub, nI_clamp, ib_nI, if_pos, if_neg, if_true, if_false, eq_self, ob]
  · simp (disch := omega) only [f_X7_queueLength, R.q1, R.q2, li_0, li_1, li_2, li_3, li_4, li_5, li_6, li_7, li_8, li_9, li_10, li_11, li_12, li_16, li_20, li_23, li_24, li_30, li_32, li_35, li_37, li_40, li_42, li_46, li_48, li_53, li_57, li_58, li_59, li_60, li_63, li_64, li_65, li_97, li_99, li_100, li_101, li_120, li_126, li_132, li_148, li_300, li_999, li_1036, li_1184, li_9999, nn1, nI_leI, nI_ltI, nI_eq, nI_add, pk_mul, pk_sub, nI_clamp, ib_nI, if_pos, if_neg, if_true, if_false, eq_self, ob]
  · simp (disch := omega) only [f_X7_bond, n4, li_0, li_1, li_2, li_3, li_4, li_5, li_6, li_7, li_8, li_9, li_10, li_11, li_12, li_16, li_20, li_23, li_24, li_30, li_32, li_35, li_37, li_40, li_42, li_46, li_48, li_53, li_57, li_58, li_59, li_60, li_63, li_64, li_65, li_97, li_99, li_100, li_101, li_120, li_126, li_132, li_148, li_300, li_999, li_1036, li_1184, li_9999, nn1, nI_leI, nI_ltI, nI_eq, nI_add, pk_mul, pk_sub, nI_clamp, ib_nI, if_pos, if_neg, if_true, if_false, eq_self, ob]
  · simp (disch := omega) only [f_X7_collected, n5, li_0, li_1, li_2, li_3, li_4, li_5, li_6, li_7, li_8, li_9, li_10, li_11, li_12, li_16, li_20, li_23, li_24, li_30, li_32, li_35, li_37, li_40, li_42, li_46, li_48, li_53, li_57, li_58, li_59, li_60, li_63, li_64, li_65, li_97, li_99, li_100, li_101, li_120, li_126, li_132, li_148, li_300, li_999, li_1036, li_1184, li_9999, nn1, nI_leI, nI_ltI, nI_eq, nI_add, pk_mul, pk_sub, nI_clamp, ib_nI, if_pos, if_neg, if_true, if_false, eq_self, ob]
theorem q_dampCount (s : St N S (M.2 0)) : ∃ r, f_X3_countDamp S = some r ∧ Val M r (f_X7_dampCount M) := by
  obtain ⟨c, t, q, R, I, D⟩ := s
  obtain ⟨k1, -⟩ := r_damp R I.1
  have k2 : f_X7_many (wrI M 0 0) (nI 6) = some (sI (fun p => S.2 6 p) c) := (r_damp (M := wrI M 0 0) R I.1).2
  exact ⟨_, k1, Val.of (by rw [f_X7_dampCount, li_6, k2, ob]; rfl)⟩
/-- by a place: lots, steps, the queue -/
def AskI (n : Int32) (x : Int32) (v : Nat → Int32) (M : Mem) (fm : Option (Int32 × Mem)) : Prop := ((x < 0 ∨ n ≤ x) ∧ Thr M 1 fm) ∨ ∃ k m, n = nI m ∧ k < m ∧ m ≤ 16 ∧ x = nI k ∧ Val M (v k) fm
theorem q_lot (s : St N S (M.2 0)) (x : Int32) : AskI (S.1 0) x (S.2 0) M (f_X7_lot M x) := by
  obtain ⟨c, t, q, R, I, D⟩ := s
  have hc := R.c
  have e1 := R.c1
  have e2 := R.c2
  rcases ix_cases x (n := c) (by omega) with ⟨h1, h2⟩ | ⟨k, hk, rfl, h2⟩
  · refine Or.inl ⟨by rw [e1]; exact h1, Thr.of 0 ?_⟩
    simp (disch := omega) only [f_X7_lot, e2, h2, ib_nI, nI_clamp, li_1, li_0, ob, if_true]
  · refine Or.inr ⟨k, c, e1, hk, hc, rfl, Val.of ?_⟩
    have h3 : f_X7_of (wrI M 0 (nI 0)) (nI k) (nI 0) = some (S.2 0 k) := r_of (M := wrI M 0 (nI 0)) R hk (by omega)
    simp (disch := omega) only [f_X7_lot, e2, h2, h3, ib_nI, nI_clamp, li_1, li_0, ob, if_true, if_false, n1z', nI_m1, nI_m1', m1_lt, m1_lt', m1_le, m1_le', n01, n10, n1z, n1z', n11]
theorem q_threshold (s : St N S (M.2 0)) (x : Int32) : AskI (S.1 2) x (S.2 7) M (f_X7_threshold M x) := by
  obtain ⟨c, t, q, R, I, D⟩ := s
  have hc := R.t
  have e1 := R.t1
  have e2 := R.t2
  rcases ix_cases x (n := t) (by omega) with ⟨h1, h2⟩ | ⟨k, hk, rfl, h2⟩
  · refine Or.inl ⟨by rw [e1]; exact h1, Thr.of 0 ?_⟩
    simp (disch := omega) only [f_X7_threshold, e2, h2, ib_nI, nI_clamp, li_1, li_2, li_0, ob, if_true]
  · rw [pk_sub (by omega)] at h2
    refine Or.inr ⟨k, t, e1, hk, by omega, rfl, Val.of ?_⟩
    have h3 := R.th hk
    simp (disch := omega) only [f_X7_threshold, e2, h2, h3, li_120, nI_m1, nI_m1', m1_lt, m1_lt', m1_le, m1_le', n01, n10, n1z, n1z', n11, nI_leI, nI_ltI, nI_eq, nI_add, pk_mul, pk_sub, nI_clamp, ib_nI, if_pos, if_neg, if_true, if_false, eq_self, ob, li_1, li_2, li_0]
theorem q_rate (s : St N S (M.2 0)) (x : Int32) : AskI (S.1 2) x (S.2 8) M (f_X7_rate M x) := by
  obtain ⟨c, t, q, R, I, D⟩ := s
  have hc := R.t
  have e1 := R.t1
  have e2 := R.t2
  rcases ix_cases x (n := t) (by omega) with ⟨h1, h2⟩ | ⟨k, hk, rfl, h2⟩
  · refine Or.inl ⟨by rw [e1]; exact h1, Thr.of 0 ?_⟩
    simp (disch := omega) only [f_X7_rate, e2, h2, ib_nI, nI_clamp, li_1, li_2, li_0, ob, if_true]
  · rw [pk_sub (by omega)] at h2
    refine Or.inr ⟨k, t, e1, hk, by omega, rfl, Val.of ?_⟩
    have h3 := R.ra hk
    simp (disch := omega) only [f_X7_rate, e2, h2, h3, li_120, nI_m1, nI_m1', m1_lt, m1_lt', m1_le, m1_le', n01, n10, n1z, n1z', n11, nI_leI, nI_ltI, nI_eq, nI_add, pk_mul, pk_sub, nI_clamp, ib_nI, if_pos, if_neg, if_true, if_false, eq_self, ob, li_1, li_2, li_0]
theorem q_queued (s : St N S (M.2 0)) (x : Int32) : AskI (S.1 7) x (S.2 9) M (f_X7_queued M x) := by
  obtain ⟨c, t, q, R, I, D⟩ := s
  have hc := R.q
  have e1 := R.q1
  have e2 := R.q2
  rcases ix_cases x (n := q) (by omega) with ⟨h1, h2⟩ | ⟨k, hk, rfl, h2⟩
  · refine Or.inl ⟨by rw [e1]; exact h1, Thr.of 0 ?_⟩
    simp (disch := omega) only [f_X7_queued, e2, h2, ib_nI, nI_clamp, li_1, li_7, li_0, ob, if_true]
  · rw [pk_sub (by omega)] at h2
    refine Or.inr ⟨k, q, e1, hk, by omega, rfl, Val.of ?_⟩
    have h3 := R.qu hk
    simp (disch := omega) only [f_X7_queued, e2, h2, h3, li_132, nI_m1, nI_m1', m1_lt, m1_lt', m1_le, m1_le', n01, n10, n1z, n1z', n11, nI_leI, nI_ltI, nI_eq, nI_add, pk_mul, pk_sub, nI_clamp, ib_nI, if_pos, if_neg, if_true, if_false, eq_self, ob, li_1, li_7, li_0]
end ASKS
