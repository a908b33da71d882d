/-! .. audit, addStep, removeStep -/
theorem lpU {σ α : Type} (L : Nat → Int32 → σ → Option α) (k : σ → Option α) (I : Nat → σ → Prop) (pl : Nat)
    (hx : ∀ n a, I pl a → L (n + 1) (nI pl) a = k a) (hs : ∀ n m a, pl ≤ m → I (m + 1) a → ∃ a', I m a' ∧ L (n + 1) (nI (m + 1)) a = L n (nI m) a') :
    ∀ d n m a, m = pl + d → d < n → I m a → ∃ a', I pl a' ∧ L n (nI m) a = k a' := by
  intro d
  induction d with
  | zero =>
    intro n m a h1 h2 h3
    obtain ⟨n', rfl⟩ : ∃ n', n = n' + 1 := ⟨n - 1, by omega⟩
    have e : m = pl := by omega
    subst e
    exact ⟨a, h3, hx n' a h3⟩
  | succ d ih =>
    intro n m a h1 h2 h3
    obtain ⟨n', rfl⟩ : ∃ n', n = n' + 1 := ⟨n - 1, by omega⟩
    obtain ⟨m', rfl⟩ : ∃ m', m = m' + 1 := ⟨m - 1, by omega⟩
    obtain ⟨a', h4, h5⟩ := hs n' m' a (by omega) h3
    obtain ⟨a'', h6, h7⟩ := ih n' m' a' (by omega) (by omega) h4
    exact ⟨a'', h6, by rw [h5, h7]⟩
theorem pk_m1' (n : Nat) : nI (n + 1) + -(nI 1) = nI n := pk_m1 n
section OPS5
variable {S M : Mem} {N : Nat}
theorem op_audit (s : St N S (M.2 0)) (hN : N < 2 ^ 31) : Op N S M [(-1, 1)] (f_X4_auditFirst S) (f_X7_audits M) := by
  obtain ⟨c, t, q, R, I, D⟩ := s
  have hc := R.c
  have hq := R.q
  have ht := R.t
  have q1 := R.q1
  have q2 := R.q2
  by_cases e0 : q = 0
  · subst e0
    refine Or.inl ⟨(-1, 1), by simp, ?_, ?_⟩
    · simp (disch := omega) only [f_X4_auditFirst, q1, li_0, nI_leI, nI_ltI, nI_eq, nI_add, pk_mul, pk_sub, nI_clamp, ib_nI, if_pos, if_neg, if_true, if_false, eq_self, ob]
    · simp (disch := omega) only [f_X7_audits, q2, li_0, li_7, nI_leI, nI_ltI, nI_eq, nI_add, pk_mul, pk_sub, nI_clamp, ib_nI, if_pos, if_neg, if_true, if_false, eq_self, ob]
  · obtain ⟨p0, hp0, ep0⟩ := I.2.2.1.1 0 (by omega)
    obtain ⟨S1, e1, a1, a2, a3⟩ := c_removeQue S (kk := 0) (x := S.2 9 0) R.q1 R.q (by omega) (fun i hi => ⟨fun e => I.2.2.1.2 i 0 hi (by omega) e, fun e => by rw [e]⟩)
    obtain ⟨M1, f1, f2, f3, f4, f5, f6⟩ := m_unq M (k := 0) R.q2 R.q (by omega)
    rw [if_pos (by omega)] at a1 a2
    have R1 : Rel S1 (M1.2 0) c t (q - 1) := by
      obtain ⟨⟨r1, r2, r3, r4⟩, ⟨b1, b2, b3⟩, ⟨c1, c2, c3⟩, ⟨d1, d2, d3, d4⟩, g1, g2, g3⟩ := R
      refine ⟨⟨?_, ?_, ?_, r4⟩, ⟨?_, ?_, b3⟩, ⟨?_, f4, by omega⟩, ⟨?_, ?_, ?_, ?_⟩, fun p' hp' j' hj' => ?_, fun k hk => ⟨?_, ?_⟩, fun k hk => ?_⟩
      · rw [f5 0 (by omega) (by omega), r1, a1]; rfl
      · rw [a1, ← r2]; rfl
      · rw [f5 1 (by omega) (by omega), r3]
      · rw [a1, ← b1]; rfl
      · rw [f5 2 (by omega) (by omega), b2]
      · rw [a1]; rfl
      · rw [f5 3 (by omega) (by omega), d1, a1]; rfl
      · rw [f5 4 (by omega) (by omega), d2, a1]; rfl
      · rw [f5 5 (by omega) (by omega), d3, a1]; rfl
      · rw [f5 6 (by omega) (by omega), d4, a1]; rfl
      · rw [f5 _ (by omega) (by omega), a3 j' p' (by omega), g1 p' hp' j' hj']
      · rw [f5 _ (by omega) (by omega), a3 7 k (by omega), (g2 k hk).1]
      · rw [f5 _ (by omega) (by omega), a3 8 k (by omega), (g2 k hk).2]
      · rw [f6 k hk, a2 k hk]
        exact g3 _ (by split <;> omega)
    have I1 : Inv S1 c t (q - 1) := by
      obtain ⟨J1, J2, J3, J4⟩ := I
      refine ⟨J1.same (fun j p hp hj => a3 j p (by omega)), TrfOK.same (T := S) (by rw [a1]; rfl) (fun j k _ hj => a3 j k (by omega)) J2, ⟨fun k hk => ?_, fun k l hk hl e => ?_⟩, by rw [a1]; exact J4⟩
      · obtain ⟨p, hp, e⟩ := J3.1 (k + 1) (by omega)
        exact ⟨p, hp, by rw [a3 0 p (by omega), a2 k hk, if_neg (by omega), e]⟩
      · rw [a2 k hk, a2 l hl, if_neg (by omega), if_neg (by omega)] at e
        have := J3.2 (k + 1) (l + 1) (by omega) (by omega) e
        omega
    have D1 : IdOK S1 c N := IdOK.same (S := S1) (T := S) (by rw [a1]; rfl) (fun p _ => a3 0 p (by omega)) D
    rcases fnd_at (g := S1.2 0) (x := S.2 9 0) (c := c) with ⟨h1, h2⟩ | ⟨p, h1, h2, h3, h4⟩
    · exact absurd (by rw [a3 0 p0 (by omega), ep0]) (h2 p0 hp0)
    · have L := I1.1.1 p h2
      have R' := R1.set h2 (j := 5) (by omega) 0
      have I' : Inv (wrA S1 5 (nI p) 0) c t (q - 1) := by
        refine I1.set R.c h2 (by omega) (by omega) ?_ (fun h => absurd h (by omega))
        obtain ⟨l1, l2, l3, l4, l5, l6, l7⟩ := L
        unfold lotOK
        simp (disch := omega) only [wr_at]
        exact ⟨l1, l2, l3, l4, Or.inl rfl, l6, fun h => absurd (show (0 : Int32) = 1 from h) (by decide)⟩
      have hid : ∃ n, n ≤ N ∧ S.2 9 0 = nI n := by
        obtain ⟨n, _, h6, h7⟩ := D1.2 p h2
        exact ⟨n, h6, by rw [← h3, h7]⟩
      obtain ⟨n, hn, en⟩ := hid
      have en' : M.2 0 132 = nI n := (R.qu (k := 0) (by omega)).trans en
      rw [en] at h1 e1
      refine Or.inr ⟨n, _, wrI (wrA M1 0 (nI (8 + 7 * p + 5)) 0) 7 (nI n), by omega, ?_, ?_, by rw [wrI_1, if_pos rfl], ?_, c, t, q - 1, R', I', (D1.set (by omega) (by omega)).mono (by omega)⟩
      · have h1' : plc S1 c (nI n) = some p := h1
        simp (disch := omega) only [f_X4_auditFirst, q1, en, e1, c_slotWith R1.c1 R1.c, h1', oi_s, vnn0, li_0, nI_leI, nI_ltI, nI_eq, nI_add, pk_mul, pk_sub, nI_clamp, ib_nI, if_pos, if_neg, if_true, if_false, eq_self, ob]
      · have h1' : plc S1 c (nI n) = some p := h1
        simp (disch := omega) only [f_X7_audits, q2, en', f1, r_placeOf R1, h1', oi_s, m_sets, f_X7_done, li_0, li_5, li_7, li_132, nI_leI, nI_ltI, nI_eq, nI_add, pk_mul, pk_sub, nI_clamp, ib_nI, if_pos, if_neg, if_true, if_false, eq_self, ob]
      · exact ⟨fun k hk => by rw [wrI_1, if_neg hk, wrA_1, f2], fun j y h0 _ => by rw [wrI_2, wrA_2, if_neg h0, f3 j y h0]⟩
/-- the tariff with a step put in at pl -/
theorem TrfOK.ins {S S' : Mem} {t pl : Nat} {x y : Nat} (T : TrfOK S t) (ht : t < 6) (hpl : pl ≤ t) (hx : x ≤ 9999) (hy : y ≤ 100) (h1 : ∀ k, k < pl → thr S k < x) (h2 : ∀ k, pl ≤ k → k < t → x < thr S k) (hc : S'.1 2 = nI (t + 1))
    (h7 : ∀ k, k < t + 1 → S'.2 7 k = if k = pl then nI x else S.2 7 (if k < pl then k else k - 1)) (h8 : ∀ k, k < t + 1 → S'.2 8 k = if k = pl then nI y else S.2 8 (if k < pl then k else k - 1)) : TrfOK S' (t + 1) := by
  obtain ⟨a1, a2, a3, a4⟩ := T
  have e7 : ∀ k, k < t + 1 → thr S' k = if k = pl then x else thr S (if k < pl then k else k - 1) := by
    intro k hk
    unfold thr
    rw [h7 k hk]
    by_cases e : k = pl
    · rw [if_pos e, if_pos e]; exact nI_clamp (by omega)
    · rw [if_neg e, if_neg e]
  have e8 : ∀ k, k < t + 1 → rat S' k = if k = pl then y else rat S (if k < pl then k else k - 1) := by
    intro k hk
    unfold rat
    rw [h8 k hk]
    by_cases e : k = pl
    · rw [if_pos e, if_pos e]; exact nI_clamp (by omega)
    · rw [if_neg e, if_neg e]
  refine ⟨hc, by omega, fun k hk => ?_, fun k k' hk hk' => ?_⟩
  · rw [e7 k hk, e8 k hk, h7 k hk, h8 k hk]
    by_cases e : k = pl
    · simp only [if_pos e]
      exact ⟨trivial, hx, trivial, hy⟩
    · simp only [if_neg e]
      exact a3 _ (by split <;> omega)
  · rw [e7 k (by omega), e7 k' hk']
    by_cases e : k = pl
    · rw [if_pos e, if_neg (by omega), if_neg (by omega)]
      exact h2 (k' - 1) (by omega) (by omega)
    · rw [if_neg e]
      by_cases e' : k' = pl
      · rw [if_pos e', if_pos (by omega)]
        exact h1 k (by omega)
      · rw [if_neg e']
        by_cases f : k' < pl
        · rw [if_pos f, if_pos (by omega)]
          exact a4 k k' hk (by omega)
        · rw [if_neg f]
          by_cases f' : k < pl
          · rw [if_pos f']
            by_cases g : k = k' - 1
            · omega
            · exact a4 k (k' - 1) (by omega) (by omega)
          · rw [if_neg f']
            exact a4 (k - 1) (k' - 1) (by omega) (by omega)
theorem op_step (s : St N S (M.2 0)) (x y : Int32) : Op N S M [(-3, 1), (-5, 2), (-4, 3)] (f_X5_insert S x y) (f_X7_addsStep M x y) := by
  obtain ⟨c, t, q, R, I, D⟩ := s
  have hc := R.c
  have hq := R.q
  have ht := R.t
  have t1 := R.t1
  have t2 := R.t2
  rcases in_cases x 0 9999 (by omega) (by omega) with ⟨h1, h2⟩ | ⟨h1, xn, hx0, hx, rfl⟩
  · refine Or.inl ⟨(-3, 1), by simp, ?_, by simp only [f_X7_addsStep, li_0, li_9999, h1, ob, if_true]⟩
    rcases h2 with h2 | h2
    · simp only [f_X5_insert, li_0, h2, if_true]
    · have h3 : ¬ x < nI 0 := fun h => by
        rw [Int32.lt_iff_toInt_lt, nI_toInt (by omega)] at h h2
        omega
      simp only [f_X5_insert, li_0, li_9999, h2, h3, if_true, if_false]
  · rcases in_cases y 0 100 (by omega) (by omega) with ⟨g1, g2⟩ | ⟨g1, yn, hy0, hy, rfl⟩
    · refine Or.inl ⟨(-3, 1), by simp, ?_, by simp only [f_X7_addsStep, li_0, li_9999, li_100, h1, g1, ob, if_true, if_false, n1z']⟩
      rcases g2 with g2 | g2
      · simp (disch := omega) only [f_X5_insert, li_9999, g2, nI_leI, nI_ltI, nI_eq, nI_add, pk_mul, pk_sub, nI_clamp, ib_nI, if_pos, if_neg, if_true, if_false, eq_self, ob, li_0]
      · have h3 : ¬ y < nI 0 := fun h => by
          rw [Int32.lt_iff_toInt_lt, nI_toInt (by omega)] at h g2
          omega
        have h4 : ¬ y ≤ nI 100 := fun h => by
          rw [Int32.le_iff_toInt_le] at h
          rw [Int32.lt_iff_toInt_lt] at g2
          omega
        simp (disch := omega) only [f_X5_insert, li_9999, li_100, h3, h4, nI_leI, nI_ltI, nI_eq, nI_add, pk_mul, pk_sub, nI_clamp, ib_nI, if_pos, if_neg, if_true, if_false, eq_self, ob, li_0]
    · have ix : ∀ (x : Int32), f_X5_indexOf S x = some (oi (fnd (fun p => decide (S.2 7 p = x)) t 0)) := by
        intro x
        unfold f_X5_indexOf
        rw [li_0]
        refine (lpS (fun n i => f_X5_indexOf_L2 x S (some (-1)) n i) (some (-1)) (fun p => decide (S.2 7 p = x)) (fun j => some (nI j)) t ?_ ?_ t 40 0 (by omega) (by omega)).trans (fk_so _ _ _)
        · intro n
          simp (disch := omega) only [f_X5_indexOf_L2, t1, li_0, li_1, li_2, li_3, li_4, li_5, li_6, li_7, li_8, li_9, li_10, li_11, li_12, li_16, li_20, li_23, li_24, li_30, li_32, li_35, li_37, li_40, li_42, li_46, li_48, li_53, li_57, li_58, li_59, li_60, li_63, li_64, li_65, li_97, li_99, li_100, li_101, li_120, li_126, li_132, li_148, li_300, li_999, li_1036, li_1184, li_9999, nn1, nI_leI, nI_ltI, nI_eq, nI_add, pk_mul, pk_sub, nI_clamp, ib_nI, if_pos, if_neg, if_true, if_false, eq_self, ob]
        · intro n i hi
          simp (disch := omega) only [f_X5_indexOf_L2, t1, decide_eq_true_eq, li_0, li_1, li_2, li_3, li_4, li_5, li_6, li_7, li_8, li_9, li_10, li_11, li_12, li_16, li_20, li_23, li_24, li_30, li_32, li_35, li_37, li_40, li_42, li_46, li_48, li_53, li_57, li_58, li_59, li_60, li_63, li_64, li_65, li_97, li_99, li_100, li_101, li_120, li_126, li_132, li_148, li_300, li_999, li_1036, li_1184, li_9999, nn1, nI_leI, nI_ltI, nI_eq, nI_add, pk_mul, pk_sub, nI_clamp, ib_nI, if_pos, if_neg, if_true, if_false, eq_self, ob]
      have lx : ∀ (k : Option (Int32 × Mem)), f_X7_addsStep_L33 (nI xn) (nI yn) (nI t) M k 40 (nI 0) = fk (fnd (fun p => decide (S.2 7 p = nI xn)) t 0) k (fun _ => some (nI 2, M)) := by
        intro k
        refine lpS (fun n i => f_X7_addsStep_L33 (nI xn) (nI yn) (nI t) M k n i) k (fun p => decide (S.2 7 p = nI xn)) (fun _ => some (nI 2, M)) t ?_ ?_ t 40 0 (by omega) (by omega)
        · intro n
          simp (disch := omega) only [f_X7_addsStep_L33, li_0, li_1, li_2, li_3, li_4, li_5, li_6, li_7, li_8, li_9, li_10, li_11, li_12, li_16, li_20, li_23, li_24, li_30, li_32, li_35, li_37, li_40, li_42, li_46, li_48, li_53, li_57, li_58, li_59, li_60, li_63, li_64, li_65, li_97, li_99, li_100, li_101, li_120, li_126, li_132, li_148, li_300, li_999, li_1036, li_1184, li_9999, nn1, nI_leI, nI_ltI, nI_eq, nI_add, pk_mul, pk_sub, nI_clamp, ib_nI, if_pos, if_neg, if_true, if_false, eq_self, ob]
        · intro n i hi
          have e := R.th hi
          simp (disch := omega) only [f_X7_addsStep_L33, e, decide_eq_true_eq, li_0, li_1, li_2, li_3, li_4, li_5, li_6, li_7, li_8, li_9, li_10, li_11, li_12, li_16, li_20, li_23, li_24, li_30, li_32, li_35, li_37, li_40, li_42, li_46, li_48, li_53, li_57, li_58, li_59, li_60, li_63, li_64, li_65, li_97, li_99, li_100, li_101, li_120, li_126, li_132, li_148, li_300, li_999, li_1036, li_1184, li_9999, nn1, nI_leI, nI_ltI, nI_eq, nI_add, pk_mul, pk_sub, nI_clamp, ib_nI, if_pos, if_neg, if_true, if_false, eq_self, ob]
      have ixx := ix (nI xn)
      rcases fnd_at (g := S.2 7) (x := nI xn) (c := t) with ⟨f1, f2⟩ | ⟨p, f1, f2, f3, f4⟩
      · by_cases t6 : t = 6
        · refine Or.inl ⟨(-4, 3), by simp, ?_, ?_⟩
          · rw [f1] at ixx
            simp (disch := omega) only [f_X5_insert, ixx, oi_n, t1, li_6, li_9999, li_100, nI_leI, nI_ltI, nI_eq, nI_add, pk_mul, pk_sub, nI_clamp, ib_nI, if_pos, if_neg, if_true, if_false, eq_self, ob, li_0, m1_lt]
          · have z2 : (2 : Int32) = nI 2 := rfl
            simp (disch := omega) only [f_X7_addsStep, h1, g1, t2, n1z', li_9999, li_100, li_2, lx, f1, fk_n, li_6, nI_leI, nI_ltI, nI_eq, nI_add, pk_mul, pk_sub, nI_clamp, ib_nI, if_pos, if_neg, if_true, if_false, eq_self, ob, li_0]
        · obtain ⟨pl, -, p1, p2, p3⟩ := below (thr S) xn t 0 (by omega) (fun k h => absurd h (by omega))
          have p4 : ∀ k, pl ≤ k → k < t → xn < thr S k := by
            intro k hk hkt
            have a := f2 k hkt
            obtain ⟨b1, b2, -⟩ := I.2.1.2.2.1 k hkt
            have d : thr S k ≠ xn := fun h => a (by rw [b1, h])
            rcases p3 with p3 | p3
            · omega
            · by_cases e : k = pl
              · rw [e] at d ⊢
                omega
              · have := I.2.1.2.2.2 pl k (by omega) hkt
                omega
          have HC := lpU (fun n i a => f_X5_insert_L52 (nI xn) (nI yn) (fun y16_3 S_16 =>
                if ib y16_3 6 = true then
                some (((S_16.1 2) + nI 1), (wrI (wrA (wrA S_16 7 y16_3 (nI xn)) 8 y16_3 (nI yn)) 2 ((S_16.1 2) + nI 1)))
                else none) n i a) (fun S_16 => some (((S_16.1 2) + nI 1), (wrI (wrA (wrA S_16 7 (nI pl) (nI xn)) 8 (nI pl) (nI yn)) 2 ((S_16.1 2) + nI 1)))) (fun m a => m ≤ t ∧ a.1 = S.1 ∧ (∀ j y, (j = 7 ∨ j = 8) → a.2 j y = S.2 j (if m < y ∧ y ≤ t then y - 1 else y)) ∧ ∀ j y, j ≠ 7 → j ≠ 8 → a.2 j y = S.2 j y) pl ?_ ?_ (t - pl) 40 t S (by omega) (by omega) ⟨Nat.le_refl t, rfl, fun j y _ => by rw [if_neg (by omega)], fun j y _ _ => rfl⟩
          have HM := lpU (fun n i a => f_X7_addsStep_L71 (nI xn) (nI yn) (fun y20_3 M_20 =>
            if ib (nI 120 + nI 2 * y20_3) 148 = true then
            if ib (nI 120 + nI 2 * y20_3 + nI 1) 148 = true then
            some (0, wrI (wrA (wrA (wrA M_20 0 (nI 120 + nI 2 * y20_3) (nI xn)) 0 (nI 120 + nI 2 * y20_3 + nI 1) (nI yn)) 0 (nI 2) ((wrA (wrA M_20 0 (nI 120 + nI 2 * y20_3) (nI xn)) 0 (nI 120 + nI 2 * y20_3 + nI 1) (nI yn)).2 0 2 + nI 1)) 7 ((wrA (wrA (wrA M_20 0 (nI 120 + nI 2 * y20_3) (nI xn)) 0 (nI 120 + nI 2 * y20_3 + nI 1) (nI yn)) 0 (nI 2) ((wrA (wrA M_20 0 (nI 120 + nI 2 * y20_3) (nI xn)) 0 (nI 120 + nI 2 * y20_3 + nI 1) (nI yn)).2 0 2 + nI 1)).2 0 2))
            else none
            else none) n i a) (fun M_20 => some (0, wrI (wrA (wrA (wrA M_20 0 (nI (120 + 2 * pl)) (nI xn)) 0 (nI (120 + 2 * pl + 1)) (nI yn)) 0 (nI 2) (M_20.2 0 2 + nI 1)) 7 (M_20.2 0 2 + nI 1))) (fun m a => m ≤ t ∧ a.1 = M.1 ∧ (∀ y, a.2 0 y = M.2 0 (if 120 + 2 * m + 2 ≤ y ∧ y < 120 + 2 * t + 2 then y - 2 else y)) ∧ ∀ j y, j ≠ 0 → a.2 j y = M.2 j y) pl ?_ ?_ (t - pl) 40 t M (by omega) (by omega) ⟨Nat.le_refl t, rfl, fun y => by rw [if_neg (by omega)], fun j y _ => rfl⟩
          · obtain ⟨a, ⟨c0, c1, c2, c3⟩, c4⟩ := HC
            obtain ⟨b, ⟨d0, d1, d2, d3⟩, d4⟩ := HM
            have ca : a.1 2 = nI t := by rw [c1, t1]
            have cb : b.2 0 2 = nI t := by rw [d2, if_neg (by omega), t2]
            rw [ca, nI_add] at c4
            rw [cb, nI_add] at d4
            refine Or.inr ⟨t + 1, wrI (wrA (wrA a 7 (nI pl) (nI xn)) 8 (nI pl) (nI yn)) 2 (nI (t + 1)), wrI (wrA (wrA (wrA b 0 (nI (120 + 2 * pl)) (nI xn)) 0 (nI (120 + 2 * pl + 1)) (nI yn)) 0 (nI 2) (nI (t + 1))) 7 (nI (t + 1)), by omega, ?_, ?_, by rw [wrI_1, if_pos rfl], ?_, c, t + 1, q, ?_, ?_, ?_⟩
            · rw [f1] at ixx
              simp (disch := omega) only [f_X5_insert, ixx, oi_n, t1, li_1, li_6, li_9999, li_100, nI_leI, nI_ltI, nI_eq, nI_add, pk_mul, pk_sub, nI_clamp, ib_nI, if_pos, if_neg, if_true, if_false, eq_self, ob, li_0, m1_lt, m1_lt']
              exact c4
            · simp (disch := omega) only [f_X7_addsStep, f_X7_done, h1, g1, t2, n1z', li_9999, li_100, li_1, li_2, lx, f1, fk_n, li_6, li_120, nI_leI, nI_ltI, nI_eq, nI_add, pk_mul, pk_sub, nI_clamp, ib_nI, if_pos, if_neg, if_true, if_false, eq_self, ob, li_0, n10]
              exact d4
            · exact ⟨fun k hk => by rw [wrI_1, if_neg hk, wrA_1, wrA_1, wrA_1, d1], fun j y h0 _ => by rw [wrI_2, wrA_2, if_neg h0, wrA_2, if_neg h0, wrA_2, if_neg h0, d3 j y h0]⟩
            · obtain ⟨⟨r1, r2, r3, r4⟩, ⟨b1, b2, b3⟩, ⟨g1, g2, g3⟩, ⟨l1, l2, l3, l4⟩, m1, m2, m3⟩ := R
              rw [wrI_2]
              have z : ∀ y, y ≠ 2 → (y < 120 ∨ 132 ≤ y) → (wrA (wrA (wrA b 0 (nI (120 + 2 * pl)) (nI xn)) 0 (nI (120 + 2 * pl + 1)) (nI yn)) 0 (nI 2) (nI (t + 1))).2 0 y = M.2 0 y := by
                intro y e1 e2
                rw [wr_at _ _ (by omega), if_neg (by omega), wr_at _ _ (by omega), if_neg (by omega), wr_at _ _ (by omega), if_neg (by omega), d2, if_neg (by omega)]
              have w1 : ∀ k, k ≠ 2 → (wrI (wrA (wrA a 7 (nI pl) (nI xn)) 8 (nI pl) (nI yn)) 2 (nI (t + 1))).1 k = S.1 k := by
                intro k hk
                rw [wrI_1, if_neg hk, wrA_1, wrA_1, c1]
              have w2 : ∀ j y, j ≠ 7 → j ≠ 8 → (wrI (wrA (wrA a 7 (nI pl) (nI xn)) 8 (nI pl) (nI yn)) 2 (nI (t + 1))).2 j y = S.2 j y := by
                intro j y e1 e2
                rw [wrI_2, wr_at _ _ (by omega), if_neg (by omega), wr_at _ _ (by omega), if_neg (by omega), c3 j y e1 e2]
              refine ⟨⟨?_, ?_, ?_, r4⟩, ⟨?_, ?_, by omega⟩, ⟨?_, ?_, g3⟩, ⟨?_, ?_, ?_, ?_⟩, fun p' hp' j' hj' => ?_, fun k hk => ⟨?_, ?_⟩, fun k hk => ?_⟩
              · rw [z 0 (by omega) (by omega), w1 1 (by omega), r1]
              · rw [w1 0 (by omega), r2]
              · rw [z 1 (by omega) (by omega), r3]
              · rw [wrI_1, if_pos rfl]
              · rw [wr_at _ _ (by omega), if_pos (by omega)]
              · rw [w1 7 (by omega), g1]
              · rw [z 7 (by omega) (by omega), g2]
              · rw [z 3 (by omega) (by omega), w1 5 (by omega), l1]
              · rw [z 4 (by omega) (by omega), w1 3 (by omega), l2]
              · rw [z 5 (by omega) (by omega), w1 4 (by omega), l3]
              · rw [z 6 (by omega) (by omega), w1 6 (by omega), l4]
              · rw [z _ (by omega) (by omega), w2 j' p' (by omega) (by omega), m1 p' hp' j' hj']
              · by_cases e : k = pl
                · subst e
                  simp (disch := omega) only [wrI_2, wr_at, if_pos, if_neg, if_true, if_false, true_and, and_self, eq_self]
                · have g1 := d2 (120 + 2 * k)
                  have g2 := c2 7 k (Or.inl rfl)
                  by_cases f : pl < k
                  · rw [if_pos (by omega), show 120 + 2 * k - 2 = 120 + 2 * (k - 1) by omega, (m2 (k - 1) (by omega)).1] at g1
                    rw [if_pos (by omega)] at g2
                    simp (disch := omega) only [wrI_2, wr_at, if_pos, if_neg, if_true, if_false, true_and, and_self, eq_self, g1, g2]
                  · rw [if_neg (by omega), (m2 k (by omega)).1] at g1
                    rw [if_neg (by omega)] at g2
                    simp (disch := omega) only [wrI_2, wr_at, if_pos, if_neg, if_true, if_false, true_and, and_self, eq_self, g1, g2]
              · by_cases e : k = pl
                · subst e
                  simp (disch := omega) only [wrI_2, wr_at, if_pos, if_neg, if_true, if_false, true_and, and_self, eq_self]
                · have g1 := d2 (120 + 2 * k + 1)
                  have g2 := c2 8 k (Or.inr rfl)
                  by_cases f : pl < k
                  · rw [if_pos (by omega), show 120 + 2 * k + 1 - 2 = 120 + 2 * (k - 1) + 1 by omega, (m2 (k - 1) (by omega)).2] at g1
                    rw [if_pos (by omega)] at g2
                    simp (disch := omega) only [wrI_2, wr_at, if_pos, if_neg, if_true, if_false, true_and, and_self, eq_self, g1, g2]
                  · rw [if_neg (by omega), (m2 k (by omega)).2] at g1
                    rw [if_neg (by omega)] at g2
                    simp (disch := omega) only [wrI_2, wr_at, if_pos, if_neg, if_true, if_false, true_and, and_self, eq_self, g1, g2]
              · rw [z _ (by omega) (by omega), w2 9 k (by omega) (by omega), m3 k hk]
            · obtain ⟨J1, J2, J3, J4⟩ := I
              have w2 : ∀ j y, j ≠ 7 → j ≠ 8 → (wrI (wrA (wrA a 7 (nI pl) (nI xn)) 8 (nI pl) (nI yn)) 2 (nI (t + 1))).2 j y = S.2 j y := by
                intro j y e1 e2
                rw [wrI_2, wr_at _ _ (by omega), if_neg (by omega), wr_at _ _ (by omega), if_neg (by omega), c3 j y e1 e2]
              refine ⟨J1.same (fun j p hp hj => w2 j p (by omega) (by omega)), J2.ins (by omega) p1 hx hy p2 p4 (by rw [wrI_1, if_pos rfl]) (fun k hk => ?_) (fun k hk => ?_), J3.same (fun p hp => w2 0 p (by omega) (by omega)) (fun k hk => w2 9 k (by omega) (by omega)), by rw [wrI_1, if_neg (by omega), wrA_1, wrA_1, c1]; exact J4⟩
              · rw [wrI_2, wr_at _ _ (by omega), if_neg (by omega), wr_at _ _ (by omega)]
                by_cases e : k = pl
                · rw [if_pos (by omega), if_pos e]
                · rw [if_neg (by omega), if_neg e, c2 7 k (Or.inl rfl)]
                  by_cases f : pl < k
                  · rw [if_pos (by omega), if_neg (by omega)]
                  · rw [if_neg (by omega), if_pos (by omega)]
              · rw [wrI_2, wr_at _ _ (by omega)]
                by_cases e : k = pl
                · rw [if_pos (by omega), if_pos e]
                · rw [if_neg (by omega), if_neg e, wr_at _ _ (by omega), if_neg (by omega), c2 8 k (Or.inr rfl)]
                  by_cases f : pl < k
                  · rw [if_pos (by omega), if_neg (by omega)]
                  · rw [if_neg (by omega), if_pos (by omega)]
            · exact (IdOK.same (S := wrI (wrA (wrA a 7 (nI pl) (nI xn)) 8 (nI pl) (nI yn)) 2 (nI (t + 1))) (T := S) (by rw [wrI_1, if_neg (by omega), wrA_1, wrA_1, c1]) (fun p _ => by rw [wrI_2, wr_at _ _ (by omega), if_neg (by omega), wr_at _ _ (by omega), if_neg (by omega), c3 0 p (by omega) (by omega)]) D).mono (by omega)
          · intro n a ⟨a0, a1, a2, a3⟩
            have o : n + 1 ≠ 0 := by omega
            by_cases e : pl = 0
            · subst e
              simp (disch := omega) only [f_X7_addsStep_L71, wr_at, true_and, li_0, li_1, li_2, li_3, li_4, li_5, li_6, li_7, li_8, li_9, li_10, li_11, li_12, li_16, li_20, li_23, li_24, li_30, li_32, li_35, li_37, li_40, li_42, li_46, li_48, li_53, li_57, li_58, li_59, li_60, li_63, li_64, li_65, li_97, li_99, li_100, li_101, li_120, li_126, li_132, li_148, li_300, li_999, li_1036, li_1184, li_9999, nn1, nI_leI, nI_ltI, nI_eq, nI_add, pk_mul, pk_sub, nI_clamp, ib_nI, if_pos, if_neg, if_true, if_false, eq_self, ob]
            · obtain ⟨b1, b2, -⟩ := I.2.1.2.2.1 (pl - 1) (by omega)
              have b3 := p2 (pl - 1) (by omega)
              have b4 : a.2 0 (120 + 2 * pl - 2) = nI (thr S (pl - 1)) := by
                rw [a2, if_neg (by omega), show 120 + 2 * pl - 2 = 120 + 2 * (pl - 1) by omega, R.th (by omega), b1]
              simp (disch := omega) only [f_X7_addsStep_L71, b4, wr_at, true_and, li_0, li_1, li_2, li_3, li_4, li_5, li_6, li_7, li_8, li_9, li_10, li_11, li_12, li_16, li_20, li_23, li_24, li_30, li_32, li_35, li_37, li_40, li_42, li_46, li_48, li_53, li_57, li_58, li_59, li_60, li_63, li_64, li_65, li_97, li_99, li_100, li_101, li_120, li_126, li_132, li_148, li_300, li_999, li_1036, li_1184, li_9999, nn1, nI_leI, nI_ltI, nI_eq, nI_add, pk_mul, pk_sub, nI_clamp, ib_nI, if_pos, if_neg, if_true, if_false, eq_self, ob]
          · intro n m a hm ⟨a0, a1, a2, a3⟩
            obtain ⟨b1, b2, -⟩ := I.2.1.2.2.1 m (by omega)
            have b3 := p4 m hm (by omega)
            have b4 : a.2 0 (120 + 2 * (m + 1) - 2) = nI (thr S m) := by
              rw [a2, if_neg (by omega), show 120 + 2 * (m + 1) - 2 = 120 + 2 * m by omega, R.th (by omega), b1]
            refine ⟨wrA (wrA a 0 (nI (120 + 2 * (m + 1))) (nI (thr S m))) 0 (nI (120 + 2 * (m + 1) + 1)) (a.2 0 (120 + 2 * (m + 1) - 1)), ⟨by omega, a1, fun y => ?_, fun j y hj => ?_⟩, ?_⟩
            · rw [wr_at _ _ (by omega), wr_at _ _ (by omega), a2, a2]
              by_cases e1 : y = 120 + 2 * (m + 1) + 1
              · rw [if_pos (by omega), if_neg (by omega), if_pos (by omega), e1]
                rfl
              · rw [if_neg (by omega)]
                by_cases e2 : y = 120 + 2 * (m + 1)
                · rw [if_pos (by omega), if_pos (by omega), e2, ← b4, a2, if_neg (by omega)]
                · rw [if_neg (by omega)]
                  by_cases f : 120 + 2 * m + 2 ≤ y ∧ y < 120 + 2 * t + 2
                  · rw [if_pos f, if_pos (by omega)]
                  · rw [if_neg f, if_neg (by omega)]
            · rw [wr_at _ _ (by omega), if_neg (by omega), wr_at _ _ (by omega), if_neg (by omega), a3 j y hj]
            · simp (disch := omega) only [f_X7_addsStep_L71, b4, wr_at, true_and, pk_m1, pk_m1', li_0, li_1, li_2, li_3, li_4, li_5, li_6, li_7, li_8, li_9, li_10, li_11, li_12, li_16, li_20, li_23, li_24, li_30, li_32, li_35, li_37, li_40, li_42, li_46, li_48, li_53, li_57, li_58, li_59, li_60, li_63, li_64, li_65, li_97, li_99, li_100, li_101, li_120, li_126, li_132, li_148, li_300, li_999, li_1036, li_1184, li_9999, nn1, nI_leI, nI_ltI, nI_eq, nI_add, pk_mul, pk_sub, nI_clamp, ib_nI, if_pos, if_neg, if_true, if_false, eq_self, ob]
          · intro n a ⟨a0, a1, a2, a3⟩
            by_cases e : pl = 0
            · subst e
              simp (disch := omega) only [f_X5_insert_L52, li_0, li_1, li_2, li_3, li_4, li_5, li_6, li_7, li_8, li_9, li_10, li_11, li_12, li_16, li_20, li_23, li_24, li_30, li_32, li_35, li_37, li_40, li_42, li_46, li_48, li_53, li_57, li_58, li_59, li_60, li_63, li_64, li_65, li_97, li_99, li_100, li_101, li_120, li_126, li_132, li_148, li_300, li_999, li_1036, li_1184, li_9999, nn1, nI_leI, nI_ltI, nI_eq, nI_add, pk_mul, pk_sub, nI_clamp, ib_nI, if_pos, if_neg, if_true, if_false, eq_self, ob]
            · obtain ⟨b1, b2, -⟩ := I.2.1.2.2.1 (pl - 1) (by omega)
              have b3 := p2 (pl - 1) (by omega)
              have b4 : a.2 7 (pl - 1) = nI (thr S (pl - 1)) := by
                rw [a2 7 _ (Or.inl rfl), if_neg (by omega), b1]
              simp (disch := omega) only [f_X5_insert_L52, b4, li_0, li_1, li_2, li_3, li_4, li_5, li_6, li_7, li_8, li_9, li_10, li_11, li_12, li_16, li_20, li_23, li_24, li_30, li_32, li_35, li_37, li_40, li_42, li_46, li_48, li_53, li_57, li_58, li_59, li_60, li_63, li_64, li_65, li_97, li_99, li_100, li_101, li_120, li_126, li_132, li_148, li_300, li_999, li_1036, li_1184, li_9999, nn1, nI_leI, nI_ltI, nI_eq, nI_add, pk_mul, pk_sub, nI_clamp, ib_nI, if_pos, if_neg, if_true, if_false, eq_self, ob]
          · intro n m a hm ⟨a0, a1, a2, a3⟩
            obtain ⟨b1, b2, -⟩ := I.2.1.2.2.1 m (by omega)
            have b3 := p4 m hm (by omega)
            have b4 : a.2 7 m = nI (thr S m) := by
              rw [a2 7 _ (Or.inl rfl), if_neg (by omega), b1]
            refine ⟨wrA (wrA a 7 (nI (m + 1)) (nI (thr S m))) 8 (nI (m + 1)) (a.2 8 m), ⟨by omega, a1, fun j y hj => ?_, fun j y h7 h8 => ?_⟩, ?_⟩
            · rw [wr_at _ _ (by omega), wr_at _ _ (by omega), a2 j y hj, a2 8 m (Or.inr rfl)]
              by_cases e1 : y = m + 1
              · rcases hj with hj | hj
                · subst hj
                  rw [if_neg (by omega), if_pos (by omega), if_pos (by omega), e1, ← b4, a2 7 m (Or.inl rfl), if_neg (by omega)]
                  rfl
                · subst hj
                  rw [if_pos (by omega), if_neg (by omega), if_pos (by omega), e1]
                  rfl
              · rw [if_neg (by omega), if_neg (by omega)]
                by_cases f : m < y ∧ y ≤ t
                · rw [if_pos f, if_pos (by omega)]
                · rw [if_neg f, if_neg (by omega)]
            · rw [wr_at _ _ (by omega), if_neg (by omega), wr_at _ _ (by omega), if_neg (by omega), a3 j y h7 h8]
            · simp (disch := omega) only [f_X5_insert_L52, b4, pk_m1, pk_m1', Nat.add_sub_cancel, li_0, li_1, li_2, li_3, li_4, li_5, li_6, li_7, li_8, li_9, li_10, li_11, li_12, li_16, li_20, li_23, li_24, li_30, li_32, li_35, li_37, li_40, li_42, li_46, li_48, li_53, li_57, li_58, li_59, li_60, li_63, li_64, li_65, li_97, li_99, li_100, li_101, li_120, li_126, li_132, li_148, li_300, li_999, li_1036, li_1184, li_9999, nn1, nI_leI, nI_ltI, nI_eq, nI_add, pk_mul, pk_sub, nI_clamp, ib_nI, if_pos, if_neg, if_true, if_false, eq_self, ob]
      · refine Or.inl ⟨(-5, 2), by simp, ?_, ?_⟩
        · rw [f1] at ixx
          simp (disch := omega) only [f_X5_insert, ixx, oi_s, nI_pos, li_9999, li_100, nI_leI, nI_ltI, nI_eq, nI_add, pk_mul, pk_sub, nI_clamp, ib_nI, if_pos, if_neg, if_true, if_false, eq_self, ob, li_0]
        · simp (disch := omega) only [f_X7_addsStep, h1, g1, t2, n1z', li_9999, li_100, li_2, lx, f1, fk_s, nI_leI, nI_ltI, nI_eq, nI_add, pk_mul, pk_sub, nI_clamp, ib_nI, if_pos, if_neg, if_true, if_false, eq_self, ob, li_0]
end OPS5
