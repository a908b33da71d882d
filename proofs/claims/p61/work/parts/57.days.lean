/-! many days; days that are tried -/
theorem Rel.congr {S : Mem} {f g : Nat → Int32} {c t q : Nat} (R : Rel S f c t q) (h : ∀ y, y < 148 → g y = f y) : Rel S g c t q := by
  have hc := R.c
  have ht := R.t
  have hq := R.q
  obtain ⟨⟨a1, a2, a3, a4⟩, ⟨b1, b2, b3⟩, ⟨c1, c2, c3⟩, ⟨d1, d2, d3, d4⟩, e1, e2, e3⟩ := R
  exact ⟨⟨by rw [h 0 (by omega), a1], a2, by rw [h 1 (by omega), a3], a4⟩, ⟨b1, by rw [h 2 (by omega), b2], b3⟩, ⟨c1, by rw [h 7 (by omega), c2], c3⟩, ⟨by rw [h 3 (by omega), d1], by rw [h 4 (by omega), d2], by rw [h 5 (by omega), d3], by rw [h 6 (by omega), d4]⟩, fun p hp j hj => by rw [h _ (by omega), e1 p hp j hj], fun k hk => ⟨by rw [h _ (by omega), (e2 k hk).1], by rw [h _ (by omega), (e2 k hk).2]⟩, fun k hk => by rw [h _ (by omega), e3 k hk]⟩
theorem St.congr {N : Nat} {S : Mem} {f g : Nat → Int32} (s : St N S f) (h : ∀ y, y < 148 → g y = f y) : St N S g := by
  obtain ⟨c, t, q, R, I, D⟩ := s
  exact ⟨c, t, q, R.congr h, I, D⟩
theorem days_both {N e : Nat} {b0 : Int32} (he : e ≤ 30) (kC : Mem → Option (Int32 × Mem)) (kM : Int32 → Mem → Option (Int32 × Mem)) (y : Int32) :
    ∀ (d n m i : Nat) (S M : Mem) (G : Nat), i + d = e → d < n → d < m → St N S (M.2 0) → S.1 6 = b0 + nI G → G ≤ 16 * i →
      ∃ S' M' G', f_X4_letPass_L21 (nI e) y kC n (nI i) S = kC S' ∧ f_X7_passes_L16 (nI e) kM m (nI G) (nI i) M = kM (nI G') M' ∧ St N S' (M'.2 0) ∧ S'.1 6 = b0 + nI G' ∧ G' ≤ 16 * e ∧ M'.1 = M.1 ∧ ∀ j y, j ≠ 0 → j ≠ 8 → M'.2 j y = M.2 j y := by
  intro d
  induction d with
  | zero =>
    intro n m i S M G h1 h2 h3 s hs hG
    obtain ⟨n', rfl⟩ : ∃ n', n = n' + 1 := ⟨n - 1, by omega⟩
    obtain ⟨m', rfl⟩ : ∃ m', m = m' + 1 := ⟨m - 1, by omega⟩
    have hi : i = e := by omega
    subst hi
    have hle : nI i ≤ nI i := by rw [nI_leI (by omega) (by omega)]; omega
    exact ⟨S, M, G, by rw [f_X4_letPass_L21, if_pos hle], by rw [f_X7_passes_L16, if_pos hle], s, hs, hG, rfl, fun _ _ _ _ => rfl⟩
  | succ d ih =>
    intro n m i S M G h1 h2 h3 s hs hG
    obtain ⟨n', rfl⟩ : ∃ n', n = n' + 1 := ⟨n - 1, by omega⟩
    obtain ⟨m', rfl⟩ : ∃ m', m = m' + 1 := ⟨m - 1, by omega⟩
    have hle : ¬ nI e ≤ nI i := by rw [nI_leI (by omega) (by omega)]; omega
    obtain ⟨S1, M1, g, a1, a2, a3, a4, a5, a6, a7⟩ := one_day s
    obtain ⟨S', M', G', b1, b2, b3, b4, b5, b6, b7⟩ := ih n' m' (i + 1) S1 M1 (G + g) (by omega) (by omega) (by omega) a4 (by rw [a5, hs, Int32.add_assoc, nI_add]) (by omega)
    refine ⟨S', M', G', ?_, ?_, b3, b4, b5, by rw [b6, a6], fun j y h0 h8 => by rw [b7 j y h0 h8, a7 j y h0 h8]⟩
    · rw [← b1, f_X4_letPass_L21, if_neg hle, a1, ob, li_1, nI_add]
    · rw [← b2, f_X7_passes_L16, if_neg hle, a2, ob, li_1, nI_add, ← nI_add G g]
theorem Int32.add_sub_self (a b : Int32) : a + b - a = b := by
  rw [Int32.add_comm, Int32.add_sub_cancel]
section DAYS
variable {S M : Mem} {N : Nat}
theorem op_pass (s : St N S (M.2 0)) (x : Int32) : Op N S M [(-3, 1)] (f_X4_letPass S x) (f_X7_passes M x) := by
  rcases in_cases x 1 30 (by omega) (by omega) with ⟨h1, h2⟩ | ⟨h1, e, e1, e2, rfl⟩
  · refine Or.inl ⟨(-3, 1), by simp, ?_, by simp only [f_X7_passes, li_1, li_30, h1, ob, if_true]⟩
    rcases h2 with h2 | h2
    · simp only [f_X4_letPass, li_1, h2, if_true]
    · have h3 : ¬ x < nI 1 := fun h => by
        rw [Int32.lt_iff_toInt_lt, nI_toInt (by omega)] at h h2
        omega
      have h4 : ¬ x ≤ nI 30 := fun h => by
        rw [Int32.le_iff_toInt_le] at h
        rw [Int32.lt_iff_toInt_lt] at h2
        omega
      simp only [f_X4_letPass, li_1, li_30, h3, h4, if_false]
  · obtain ⟨S', M', G', a1, a2, a3, a4, a5, a6, a7⟩ := days_both (b0 := S.1 6) e2 (fun S_6 => some (((S_6.1 6) - (S.1 6)), S_6)) (fun y8_2 M_8 => (f_X7_done M_8 y8_2).bind fun (r9, M_10) => some (r9, M_10)) (S.1 6) e 40 40 0 S M 0 (by omega) (by omega) (by omega) s (Int32.add_zero _).symm (by omega)
    refine Or.inr ⟨G', S', wrI M' 7 (nI G'), by omega, ?_, ?_, by rw [wrI_1, if_pos rfl], ⟨fun k hk => by rw [wrI_1, if_neg hk, a6], fun j y h0 h8 => a7 j y h0 h8⟩, a3.mono (by omega)⟩
    · simp (disch := omega) only [f_X4_letPass, li_1, li_30, nI_leI, nI_ltI, nI_eq, nI_add, pk_mul, pk_sub, nI_clamp, ib_nI, if_pos, if_neg, if_true, if_false, eq_self, ob, li_0]
      rw [a1, a4, Int32.add_sub_self]
    · simp (disch := omega) only [f_X7_passes, li_1, li_30, h1, nI_leI, nI_ltI, nI_eq, nI_add, pk_mul, pk_sub, nI_clamp, ib_nI, if_pos, if_neg, if_true, if_false, eq_self, ob, li_0, n10]
      rw [a2]
      rfl
theorem op_day1 (s : St N S (M.2 0)) : ∃ S' M', f_X4_letOneDayPass S = some S' ∧ f_X7_passes M 1 = some (0, M') ∧ Fm M M' ∧ St (N + 1) S' (M'.2 0) := by
  obtain ⟨S', M', g, a1, a2, a3, a4, a5, a6, a7⟩ := one_day s
  refine ⟨S', wrI M' 7 (nI g), a1, ?_, ⟨fun k hk => by rw [wrI_1, if_neg hk, a6], fun j y h0 h8 => a7 j y h0 h8⟩, a4.mono (by omega)⟩
  have h1 : f_X7_in (nI 1) (nI 1) (nI 30) = some 1 := by decide +kernel
  simp (disch := omega) only [f_X7_passes, li_1, li_30, h1, nI_leI, nI_ltI, nI_eq, nI_add, pk_mul, pk_sub, nI_clamp, ib_nI, if_pos, if_neg, if_true, if_false, eq_self, ob, li_0, n10]
  simp (disch := omega) only [f_X7_passes_L16, a2, f_X7_done, Nat.zero_add, li_0, li_1, li_2, li_3, li_4, li_5, li_6, li_7, li_8, li_9, li_10, li_11, li_12, li_16, li_20, li_23, li_24, li_30, li_32, li_35, li_37, li_40, li_42, li_46, li_48, li_53, li_57, li_58, li_59, li_60, li_63, li_64, li_65, li_97, li_99, li_100, li_101, li_120, li_126, li_132, li_148, li_300, li_999, li_1036, li_1184, li_9999, nn1, nI_leI, nI_ltI, nI_eq, nI_add, pk_mul, pk_sub, nI_clamp, ib_nI, if_pos, if_neg, if_true, if_false, eq_self, ob]
theorem after_both {e : Nat} (he : e ≤ 30) (kC : Mem → Option (Int32 × Mem)) (kM : Mem → Option (Int32 × Mem)) (y : Int32) :
    ∀ (d n m i : Nat) (S M : Mem) (z : Int32), i + d = e → d < n → d < m → St N S (M.2 0) →
      ∃ S' M', f_X4_letPass_L21 (nI e) y kC n (nI i) S = kC S' ∧ f_X7_dampAfter_L59 (nI e) kM m z (nI i) M = kM M' ∧ St N S' (M'.2 0) ∧ M'.1 = M.1 ∧ ∀ j y, j ≠ 0 → j ≠ 8 → M'.2 j y = M.2 j y := by
  intro d
  induction d with
  | zero =>
    intro n m i S M z h1 h2 h3 s
    obtain ⟨n', rfl⟩ : ∃ n', n = n' + 1 := ⟨n - 1, by omega⟩
    obtain ⟨m', rfl⟩ : ∃ m', m = m' + 1 := ⟨m - 1, by omega⟩
    have hi : i = e := by omega
    subst hi
    have hle : nI i ≤ nI i := by rw [nI_leI (by omega) (by omega)]; omega
    exact ⟨S, M, by rw [f_X4_letPass_L21, if_pos hle], by rw [f_X7_dampAfter_L59, if_pos hle], s, rfl, fun _ _ _ _ => rfl⟩
  | succ d ih =>
    intro n m i S M z h1 h2 h3 s
    obtain ⟨n', rfl⟩ : ∃ n', n = n' + 1 := ⟨n - 1, by omega⟩
    obtain ⟨m', rfl⟩ : ∃ m', m = m' + 1 := ⟨m - 1, by omega⟩
    have hle : ¬ nI e ≤ nI i := by rw [nI_leI (by omega) (by omega)]; omega
    obtain ⟨S1, M1, g, a1, a2, a3, a4, a5, a6, a7⟩ := one_day s
    obtain ⟨S', M', b1, b2, b3, b6, b7⟩ := ih n' m' (i + 1) S1 M1 (z + nI g) (by omega) (by omega) (by omega) a4
    refine ⟨S', M', ?_, ?_, b3, by rw [b6, a6], fun j y h0 h8 => by rw [b7 j y h0 h8, a7 j y h0 h8]⟩
    · rw [← b1, f_X4_letPass_L21, if_neg hle, a1, ob, li_1, nI_add]
    · rw [← b2, f_X7_dampAfter_L59, if_neg hle, a2, ob, li_1, nI_add]
/-- the days of a forecast F on the class' side, the model's own on the other -/
theorem r_after (s : St N S (M.2 0)) (F : Mem) {e : Nat} (he : e ≤ 30) : ∃ F1 F2 r M', f_X4_copyFrom F S = some F1 ∧ (e = 0 → F2 = F1) ∧ (e ≠ 0 → ∃ z, f_X4_letPass F1 (nI e) = some (z, F2)) ∧ f_X3_countDamp F2 = some r ∧ f_X7_dampAfter M (nI e) = some (r, M') ∧ M'.1 = (wrI M 0 0).1 ∧ (∀ y, y < 148 → M'.2 0 y = M.2 0 y) ∧ ∀ j y, j ≠ 0 → j ≠ 4 → j ≠ 8 → M'.2 j y = M.2 j y := by
  obtain ⟨c, t, q, R, I, D⟩ := s
  obtain ⟨F1, f1, f2⟩ := c_copy F R I
  have H1 := lpI (fun n i a => f_X7_dampAfter_L30 (nI e) (fun M_7 =>
      f_X7_dampAfter_L59 (nI e)
      (fun M_12 =>
        (f_X7_many M_12 6).bind fun r13 =>
        f_X7_dampAfter_L87 r13
        (fun M_18 =>
          some (r13, M_18)) 1200 0 M_12) 1200 0 0 M_7) n i a) (fun M_7 =>
      f_X7_dampAfter_L59 (nI e)
      (fun M_12 =>
        (f_X7_many M_12 6).bind fun r13 =>
        f_X7_dampAfter_L87 r13
        (fun M_18 =>
          some (r13, M_18)) 1200 0 M_12) 1200 0 0 M_7) (fun i a => a.1 = (wrI M 0 0).1 ∧ (∀ j y, j ≠ 4 → a.2 j y = M.2 j y) ∧ ∀ y, y < i → a.2 4 y = M.2 0 y) 148 ?_ ?_ 148 1200 0 (wrI M 0 0) (by omega) (by omega) ⟨rfl, fun _ _ _ => rfl, fun y hy => absurd hy (by omega)⟩
  · obtain ⟨M1, ⟨a1, a2, a3⟩, a4⟩ := H1
    have s1 : St N F1 (M1.2 0) := ⟨c, t, q, (R.same f2).congr (fun y _ => a2 0 y (by omega)), I.same f2, IdOK.same (f2.1 1 (by omega)) (fun p hp => f2.2.1 0 p hp (by omega)) D⟩
    obtain ⟨F2, M2, b1, b2, b3, b4, b5⟩ := after_both (N := N) he (fun S_6 => some (((S_6.1 6) - (F1.1 6)), S_6)) (fun M_12 =>
        (f_X7_many M_12 6).bind fun r13 =>
        f_X7_dampAfter_L87 r13
        (fun M_18 =>
          some (r13, M_18)) 1200 0 M_12) (F1.1 6) e 40 1200 0 F1 M1 0 (by omega) (by omega) (by omega) s1
    obtain ⟨c', t', q', R2, I2, D2⟩ := b3
    obtain ⟨k1, k2⟩ := r_damp R2 I2.1
    have H2 := lpI (fun n i a => f_X7_dampAfter_L87 (sI (fun p => F2.2 6 p) c') (fun M_18 => some (sI (fun p => F2.2 6 p) c', M_18)) n i a) (fun M_18 => some (sI (fun p => F2.2 6 p) c', M_18)) (fun i a => a.1 = M2.1 ∧ (∀ j y, j ≠ 0 → a.2 j y = M2.2 j y) ∧ ∀ y, y < i → a.2 0 y = M2.2 4 y) 148 ?_ ?_ 148 1200 0 M2 (by omega) (by omega) ⟨rfl, fun _ _ _ => rfl, fun y hy => absurd hy (by omega)⟩
    · obtain ⟨M3, ⟨d1, d2, d3⟩, d4⟩ := H2
      refine ⟨F1, if e = 0 then F1 else F2, sI (fun p => F2.2 6 p) c', M3, f1, fun h => if_pos h, fun h => ⟨F2.1 6 - F1.1 6, ?_⟩, ?_, ?_, by rw [d1, b4, a1], fun y hy => by rw [d3 y hy, b5 4 y (by omega) (by omega), a3 y hy], fun j y h0 h4 h8 => by rw [d2 j y h0, b5 j y h0 h8, a2 j y h4]⟩
      · rw [if_neg h]
        have h1 : ¬ nI e < 1 := by rw [li_1, nI_ltI (by omega) (by omega)]; omega
        have h2 : nI e ≤ 30 := by rw [li_30, nI_leI (by omega) (by omega)]; omega
        rw [f_X4_letPass, if_neg h1, if_pos h2]
        exact b1
      · by_cases h : e = 0
        · rw [if_pos h]
          subst h
          have : F2 = F1 := by
            have b1' : f_X4_letPass_L21 (nI 0) (F1.1 6) (fun S_6 => some (((S_6.1 6) - (F1.1 6)), S_6)) 40 (nI 0) F1 = some ((F1.1 6) - (F1.1 6), F1) := by
              rw [f_X4_letPass_L21, if_pos (by decide)]
            rw [b1'] at b1
            have := Option.some.inj b1
            exact ((Prod.mk.inj this).2).symm
          rw [← this]
          exact k1
        · rw [if_neg h]
          exact k1
      · have h1 : f_X7_in (nI e) 0 30 = some 1 := by
          rcases in_cases (nI e) 0 30 (by omega) (by omega) with ⟨-, g⟩ | ⟨g, -⟩
          · rw [nI_ltI (by omega) (by omega), nI_ltI (by omega) (by omega)] at g
            omega
          · exact g
        rw [f_X7_dampAfter, h1, ob, if_neg (by decide)]
        refine a4.trans ?_
        refine b2.trans ?_
        have k2' : f_X7_many M2 6 = some (sI (fun p => F2.2 6 p) c') := k2
        rw [k2', ob]
        exact d4
    · intro n a _
      simp (disch := omega) only [f_X7_dampAfter_L87, li_0, li_1, li_2, li_3, li_4, li_5, li_6, li_7, li_8, li_9, li_10, li_11, li_12, li_16, li_20, li_23, li_24, li_30, li_32, li_35, li_37, li_40, li_42, li_46, li_48, li_53, li_57, li_58, li_59, li_60, li_63, li_64, li_65, li_97, li_99, li_100, li_101, li_120, li_126, li_132, li_148, li_300, li_999, li_1036, li_1184, li_9999, nn1, nI_leI, nI_ltI, nI_eq, nI_add, pk_mul, pk_sub, nI_clamp, ib_nI, if_pos, if_neg, if_true, if_false, eq_self, ob]
    · intro n i a hi ⟨a1, a2, a3⟩
      refine ⟨wrA a 0 (nI i) (a.2 4 i), ⟨a1, fun j y hj => by rw [wr_same _ _ _ _ _ _ hj, a2 j y hj], fun y hy => ?_⟩, by simp (disch := omega) only [f_X7_dampAfter_L87, li_0, li_1, li_2, li_3, li_4, li_5, li_6, li_7, li_8, li_9, li_10, li_11, li_12, li_16, li_20, li_23, li_24, li_30, li_32, li_35, li_37, li_40, li_42, li_46, li_48, li_53, li_57, li_58, li_59, li_60, li_63, li_64, li_65, li_97, li_99, li_100, li_101, li_120, li_126, li_132, li_148, li_300, li_999, li_1036, li_1184, li_9999, nn1, nI_leI, nI_ltI, nI_eq, nI_add, pk_mul, pk_sub, nI_clamp, ib_nI, if_pos, if_neg, if_true, if_false, eq_self, ob]⟩
      rw [wr_at _ _ (by omega)]
      by_cases g : y = i
      · rw [if_pos ⟨rfl, g⟩, a2 4 i (by omega), g]
      · rw [if_neg (fun h => g h.2), a3 y (by omega)]
  · intro n a _
    simp (disch := omega) only [f_X7_dampAfter_L30, nI_leI, nI_ltI, nI_eq, nI_add, pk_mul, pk_sub, nI_clamp, ib_nI, if_pos, if_neg, if_true, if_false, eq_self, ob, li_148]
  · intro n i a hi ⟨a1, a2, a3⟩
    refine ⟨wrA a 4 (nI i) (a.2 0 i), ⟨a1, fun j y hj => by rw [wr_same _ _ _ _ _ _ hj, a2 j y hj], fun y hy => ?_⟩, by simp (disch := omega) only [f_X7_dampAfter_L30, nI_leI, nI_ltI, nI_eq, nI_add, pk_mul, pk_sub, nI_clamp, ib_nI, if_pos, if_neg, if_true, if_false, eq_self, ob, li_148, li_1]⟩
    rw [wr_at _ _ (by omega)]
    by_cases g : y = i
    · rw [if_pos ⟨rfl, g⟩, a2 0 i (by omega), g]
    · rw [if_neg (fun h => g h.2), a3 y (by omega)]
end DAYS
