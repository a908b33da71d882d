/-! .. addLot, queue, audit, bond, release -/
theorem Rel.num {S M : Mem} {c t q k i : Nat} (R : Rel S (M.2 0) c t q) (h : (k = 3 ∧ i = 4) ∨ (k = 4 ∧ i = 5) ∨ (k = 5 ∧ i = 3) ∨ (k = 6 ∧ i = 6)) (v : Int32) : Rel (wrI S k v) ((wrA M 0 (nI i) v).2 0) c t q := by
  have hc := R.c
  have ht := R.t
  have hq := R.q
  obtain ⟨⟨a1, a2, a3, a4⟩, ⟨b1, b2, b3⟩, ⟨c1, c2, c3⟩, ⟨d1, d2, d3, d4⟩, e1, e2, e3⟩ := R
  have hi : i < 8 := by omega
  refine ⟨⟨?_, ?_, ?_, a4⟩, ⟨?_, ?_, b3⟩, ⟨?_, ?_, c3⟩, ⟨?_, ?_, ?_, ?_⟩, fun p' hp' j' hj' => ?_, fun k' hk => ⟨?_, ?_⟩, fun k' hk => ?_⟩
  · rw [wr_at _ _ (by omega), if_neg (by omega), wrI_1, if_neg (by omega), a1]
  · rw [wrI_1, if_neg (by omega), a2]
  · rw [wr_at _ _ (by omega), if_neg (by omega), a3]
  · rw [wrI_1, if_neg (by omega), b1]
  · rw [wr_at _ _ (by omega), if_neg (by omega), b2]
  · rw [wrI_1, if_neg (by omega), c1]
  · rw [wr_at _ _ (by omega), if_neg (by omega), c2]
  · rw [wr_at _ _ (by omega), wrI_1]
    by_cases e : i = 3
    · rw [if_pos (by omega), if_pos (by omega)]
    · rw [if_neg (by omega), if_neg (by omega), d1]
  · rw [wr_at _ _ (by omega), wrI_1]
    by_cases e : i = 4
    · rw [if_pos (by omega), if_pos (by omega)]
    · rw [if_neg (by omega), if_neg (by omega), d2]
  · rw [wr_at _ _ (by omega), wrI_1]
    by_cases e : i = 5
    · rw [if_pos (by omega), if_pos (by omega)]
    · rw [if_neg (by omega), if_neg (by omega), d3]
  · rw [wr_at _ _ (by omega), wrI_1]
    by_cases e : i = 6
    · rw [if_pos (by omega), if_pos (by omega)]
    · rw [if_neg (by omega), if_neg (by omega), d4]
  · rw [wr_at _ _ (by omega), if_neg (by omega), wrI_2, e1 p' hp' j' hj']
  · rw [wr_at _ _ (by omega), if_neg (by omega), wrI_2, (e2 k' hk).1]
  · rw [wr_at _ _ (by omega), if_neg (by omega), wrI_2, (e2 k' hk).2]
  · rw [wr_at _ _ (by omega), if_neg (by omega), wrI_2, e3 k' hk]
theorem Inv.num {S : Mem} {c t q k : Nat} {v : Int32} (I : Inv S c t q) (h : k = 3 ∨ k = 4 ∨ k = 5 ∨ k = 6) (h3 : k = 3 → inR v 0 9999) : Inv (wrI S k v) c t q := by
  obtain ⟨I1, I2, I3, I4⟩ := I
  refine ⟨I1, TrfOK.same (T := S) (by rw [wrI_1, if_neg (by omega)]) (fun _ _ _ _ => rfl) I2, I3, ?_⟩
  rw [wrI_1]
  by_cases e : 3 = k
  · rw [if_pos e]
    exact h3 e.symm
  · rw [if_neg e]
    exact I4
theorem IdOK.num {S : Mem} {c k N : Nat} {v : Int32} (D : IdOK S c N) (h : k ≠ 1) : IdOK (wrI S k v) c N := ⟨by rw [wrI_1, if_neg (by omega)]; exact D.1, D.2⟩
theorem pig : ∀ (n m : Nat) (g : Nat → Nat), (∀ i, i < m → g i < n) → (∀ i j, i < m → j < m → g i = g j → i = j) → m ≤ n := by
  intro n
  induction n with
  | zero =>
    intro m g h1 _
    by_cases e : m = 0
    · omega
    · exact absurd (h1 0 (by omega)) (by omega)
  | succ n ih =>
    intro m g h1 h2
    by_cases e : ∃ i, i < m ∧ g i = n
    · obtain ⟨i, hi, gi⟩ := e
      have := ih (m - 1) (fun k => g (if k < i then k else k + 1)) (fun k hk => ?_) (fun k l hk hl hg => ?_)
      · omega
      · have hx : (if k < i then k else k + 1) < m ∧ (if k < i then k else k + 1) ≠ i := by split <;> omega
        have a := h1 _ hx.1
        have b : g (if k < i then k else k + 1) ≠ n := fun h => hx.2 (h2 _ _ hx.1 hi (h.trans gi.symm))
        omega
      · have hx : (if k < i then k else k + 1) < m := by split <;> omega
        have hy : (if l < i then l else l + 1) < m := by split <;> omega
        have := h2 _ _ hx hy hg
        split at this <;> split at this <;> omega
    · have := ih m g (fun k hk => ?_) h2
      · omega
      · have a := h1 k hk
        have b : g k ≠ n := fun h => e ⟨k, hk, h⟩
        omega
theorem QueOK.room {S : Mem} {c q p : Nat} (Q : QueOK S c q) (hp : p < c) (h : ∀ k, k < q → S.2 9 k ≠ S.2 0 p) : q < c := by
  have h1 : ∃ g : Nat → Nat, ∀ k, k < q → g k < c ∧ S.2 0 (g k) = S.2 9 k := ⟨fun k => if h : k < q then (Q.1 k h).choose else 0, fun k hk => by
    simp only [dif_pos hk]
    exact (Q.1 k hk).choose_spec⟩
  obtain ⟨g, hg⟩ := h1
  have := pig c (q + 1) (fun k => if k < q then g k else p) (fun k hk => ?_) (fun k l hk hl e => ?_)
  · omega
  · split
    · exact (hg k (by assumption)).1
    · exact hp
  · by_cases a : k < q
    · by_cases b : l < q
      · rw [if_pos a, if_pos b] at e
        exact Q.2 k l a b (by rw [← (hg k a).2, ← (hg l b).2, e])
      · rw [if_pos a, if_neg b] at e
        exact absurd (by rw [← (hg k a).2, e]) (h k a)
    · by_cases b : l < q
      · rw [if_neg a, if_pos b] at e
        exact absurd (by rw [← (hg l b).2, ← e]) (h l b)
      · omega
section OPS3
variable {S M : Mem} {N : Nat}
theorem op_coins (s : St N S (M.2 0)) (x : Int32) : Op N S M [(-3, 1), (-4, 2)] (f_X4_takeCoins S x) (f_X7_deposits M x) := by
  obtain ⟨c, t, q, R, I, D⟩ := s
  obtain ⟨n3, n4, n5, n6⟩ := R.nums
  obtain ⟨b, hb0, hb, eb⟩ := I.2.2.2
  have n0 : ¬ ((1 : Int32) = 0) := by decide
  rcases in_cases x 1 999 (by omega) (by omega) with ⟨h1, h2⟩ | ⟨h1, n, a1, a2, rfl⟩
  · refine Or.inl ⟨(-3, 1), by simp, ?_, ?_⟩
    · unfold f_X4_takeCoins
      rw [li_1, li_999]
      by_cases g : x < nI 1
      · rw [if_pos g]
      · rw [if_neg g]
        rcases h2 with h2 | h2
        · exact absurd h2 g
        · rw [if_neg (fun h => by rw [Int32.le_iff_toInt_le] at h; rw [Int32.lt_iff_toInt_lt] at h2; omega)]
    · simp only [f_X7_deposits, li_1, li_999, h1, ob, if_true]
  · by_cases g : b + n ≤ 9999
    · refine Or.inr ⟨b + n, wrI S 3 (nI (b + n)), wrI (wrA M 0 (nI 4) (nI (b + n))) 7 (nI (b + n)), by omega, ?_, ?_, by rw [wrI_1, if_pos rfl], Fm.set _ _ _ _, c, t, q, R.num (by omega) _, I.num (by omega) (fun _ => ⟨b + n, by omega, g, rfl⟩), (D.num (by omega)).mono (by omega)⟩
      · simp (disch := omega) only [f_X4_takeCoins, eb, li_0, li_1, li_2, li_3, li_4, li_5, li_6, li_7, li_8, li_9, li_10, li_11, li_12, li_16, li_20, li_23, li_24, li_30, li_32, li_35, li_37, li_40, li_42, li_46, li_48, li_53, li_57, li_58, li_59, li_60, li_63, li_64, li_65, li_97, li_99, li_100, li_101, li_120, li_126, li_132, li_148, li_300, li_999, li_1036, li_1184, li_9999, nn1, nI_leI, nI_ltI, nI_eq, nI_add, pk_mul, pk_sub, nI_clamp, ib_nI, if_pos, if_neg, if_true, if_false, eq_self, ob]
      · have n4' : M.2 0 4 = nI b := n4.trans eb
        simp (disch := omega) only [f_X7_deposits, li_999, li_1, h1, nI_m1, nI_m1', m1_lt, m1_lt', m1_le, m1_le', n01, n10, n1z, n1z', n11, n4', li_4, li_9999, wr_at, f_X7_done, and_self, nI_leI, nI_ltI, nI_eq, nI_add, pk_mul, pk_sub, nI_clamp, ib_nI, if_pos, if_neg, if_true, if_false, eq_self, ob]
    · refine Or.inl ⟨(-4, 2), by simp, ?_, ?_⟩
      · simp (disch := omega) only [f_X4_takeCoins, eb, li_0, li_1, li_2, li_3, li_4, li_5, li_6, li_7, li_8, li_9, li_10, li_11, li_12, li_16, li_20, li_23, li_24, li_30, li_32, li_35, li_37, li_40, li_42, li_46, li_48, li_53, li_57, li_58, li_59, li_60, li_63, li_64, li_65, li_97, li_99, li_100, li_101, li_120, li_126, li_132, li_148, li_300, li_999, li_1036, li_1184, li_9999, nn1, nI_leI, nI_ltI, nI_eq, nI_add, pk_mul, pk_sub, nI_clamp, ib_nI, if_pos, if_neg, if_true, if_false, eq_self, ob]
      · have n4' : M.2 0 4 = nI b := n4.trans eb
        simp (disch := omega) only [f_X7_deposits, li_999, li_1, h1, nI_m1, nI_m1', m1_lt, m1_lt', m1_le, m1_le', n01, n10, n1z, n1z', n11, n4', li_4, li_9999, nI_leI, nI_ltI, nI_eq, nI_add, pk_mul, pk_sub, nI_clamp, ib_nI, if_pos, if_neg, if_true, if_false, eq_self, ob]
theorem op_queue (s : St N S (M.2 0)) (x : Int32) : Op N S M [(-1, 1), (-4, 2)] (f_X4_queueLot S x) (f_X7_joins M x) := by
  obtain ⟨c, t, q, R, I, D⟩ := s
  have hc := R.c
  have hq := R.q
  have ht := R.t
  have q1 := R.q1
  have q2 := R.q2
  rcases fnd_at (g := S.2 0) (x := x) (c := c) with ⟨h1, h2⟩ | ⟨p, h1, h2, h3, h4⟩
  · refine Or.inl ⟨(-1, 1), by simp, ?_, ?_⟩
    · simp (disch := omega) only [f_X4_queueLot, c_slotWith R.c1 R.c, h1, oi_n, m1_le, nI_leI, nI_ltI, nI_eq, nI_add, pk_mul, pk_sub, nI_clamp, ib_nI, if_pos, if_neg, if_true, if_false, eq_self, ob, li_0]
    · simp (disch := omega) only [f_X7_joins, r_placeOf R, h1, oi_n, nI_leI, nI_ltI, nI_eq, nI_add, pk_mul, pk_sub, nI_clamp, ib_nI, if_pos, if_neg, if_true, if_false, eq_self, ob]
  · have ew := r_waits R x
    have cw := c_queue R.q1 R.q x
    rcases fnd_at (g := S.2 9) (x := x) (c := q) with ⟨g1, g2⟩ | ⟨k, g1, g2, g3, g4⟩
    · have hr := I.2.2.1.room h2 (fun k hk e => g2 k hk (e.trans h3))
      rw [show quc S q x = none from g1] at ew cw
      refine Or.inr ⟨q + 1, wrI (wrA S 9 (nI q) x) 7 (nI (q + 1)), wrI (wrA (wrA M 0 (nI (132 + q)) x) 0 (nI 7) (nI (q + 1))) 7 (nI (q + 1)), by omega, ?_, ?_, by rw [wrI_1, if_pos rfl], ⟨fun k hk => by rw [wrI_1, if_neg hk]; rfl, fun j y h0 _ => by rw [wrI_2, wrA_2, if_neg h0, wrA_2, if_neg h0]⟩, c, t, q + 1, ?_, ?_, ?_⟩
      · simp (disch := omega) only [f_X4_queueLot, f_X0_append, c_slotWith R.c1 R.c, h1, oi_s, oi_n, cw, q1, nI_m1, nI_m1', m1_lt, m1_lt', m1_le, m1_le', n01, n10, n1z, n1z', n11, nI_pos', li_0, li_1, li_16, nI_leI, nI_ltI, nI_eq, nI_add, pk_mul, pk_sub, nI_clamp, ib_nI, if_pos, if_neg, if_true, if_false, eq_self, ob]
      · simp (disch := omega) only [f_X7_joins, r_placeOf R, h1, oi_s, oi_n, ew, q2, nI_m1, nI_m1', m1_lt, m1_lt', m1_le, m1_le', n01, n10, n1z, n1z', n11, li_1, li_7, li_132, wr_at, f_X7_done, and_self, nI_leI, nI_ltI, nI_eq, nI_add, pk_mul, pk_sub, nI_clamp, ib_nI, if_pos, if_neg, if_true, if_false, eq_self, ob]
      · obtain ⟨⟨a1, a2, a3, a4⟩, ⟨b1, b2, b3⟩, ⟨c1, c2, c3⟩, ⟨d1, d2, d3, d4⟩, e1, e2, e3⟩ := R
        rw [wrI_2]
        refine ⟨⟨?_, a2, ?_, a4⟩, ⟨b1, ?_, b3⟩, ⟨?_, ?_, by omega⟩, ⟨?_, ?_, ?_, ?_⟩, fun p' hp' j' hj' => ?_, fun k' hk => ⟨?_, ?_⟩, fun k' hk => ?_⟩
        · rw [wr_at _ _ (by omega), if_neg (by omega), wr_at _ _ (by omega), if_neg (by omega), a1]; rfl
        · rw [wr_at _ _ (by omega), if_neg (by omega), wr_at _ _ (by omega), if_neg (by omega), a3]
        · rw [wr_at _ _ (by omega), if_neg (by omega), wr_at _ _ (by omega), if_neg (by omega), b2]
        · rw [wrI_1, if_pos rfl]
        · rw [wr_at _ _ (by omega), if_pos (by omega)]
        · rw [wr_at _ _ (by omega), if_neg (by omega), wr_at _ _ (by omega), if_neg (by omega), d1]; rfl
        · rw [wr_at _ _ (by omega), if_neg (by omega), wr_at _ _ (by omega), if_neg (by omega), d2]; rfl
        · rw [wr_at _ _ (by omega), if_neg (by omega), wr_at _ _ (by omega), if_neg (by omega), d3]; rfl
        · rw [wr_at _ _ (by omega), if_neg (by omega), wr_at _ _ (by omega), if_neg (by omega), d4]; rfl
        · rw [wr_at _ _ (by omega), if_neg (by omega), wr_at _ _ (by omega), if_neg (by omega), wrI_2, wr_at _ _ (by omega), if_neg (by omega), e1 p' hp' j' hj']
        · rw [wr_at _ _ (by omega), if_neg (by omega), wr_at _ _ (by omega), if_neg (by omega), wrI_2, wr_at _ _ (by omega), if_neg (by omega), (e2 k' hk).1]
        · rw [wr_at _ _ (by omega), if_neg (by omega), wr_at _ _ (by omega), if_neg (by omega), wrI_2, wr_at _ _ (by omega), if_neg (by omega), (e2 k' hk).2]
        · rw [wr_at _ _ (by omega), if_neg (by omega), wr_at _ _ (by omega), wrI_2, wr_at _ _ (by omega)]
          by_cases e : k' = q
          · rw [if_pos (by omega), if_pos (by omega)]
          · rw [if_neg (by omega), if_neg (by omega), e3 k' (by omega)]
      · obtain ⟨I1, I2, I3, I4⟩ := I
        refine ⟨I1.same (fun j p hp hj => ?_), TrfOK.same (T := S) rfl (fun j k _ hj => ?_) I2, ⟨fun k hk => ?_, fun k l hk hl e => ?_⟩, I4⟩
        · rw [wrI_2, wr_at _ _ (by omega), if_neg (by omega)]
        · rw [wrI_2, wr_at _ _ (by omega), if_neg (by omega)]
        · by_cases e : k = q
          · refine ⟨p, h2, ?_⟩
            rw [wrI_2, wr_at _ _ (by omega), if_neg (by omega), wr_at _ _ (by omega), if_pos ⟨rfl, e⟩, h3]
          · obtain ⟨p', hp', e'⟩ := I3.1 k (by omega)
            refine ⟨p', hp', ?_⟩
            rw [wrI_2, wr_at _ _ (by omega), if_neg (by omega), wr_at _ _ (by omega), if_neg (by omega), e']
        · rw [wrI_2, wr_at _ _ (by omega), wr_at _ _ (by omega)] at e
          by_cases ek : k = q
          · by_cases el : l = q
            · omega
            · rw [if_pos ⟨rfl, ek⟩, if_neg (fun h => el h.2)] at e
              exact absurd e.symm (g2 l (by omega))
          · by_cases el : l = q
            · rw [if_neg (fun h => ek h.2), if_pos ⟨rfl, el⟩] at e
              exact absurd e (g2 k (by omega))
            · rw [if_neg (fun h => ek h.2), if_neg (fun h => el h.2)] at e
              exact I3.2 k l (by omega) (by omega) e
      · exact (IdOK.same (S := wrI (wrA S 9 (nI q) x) 7 (nI (q + 1))) (T := S) rfl (fun p' _ => by rw [wrI_2, wr_at _ _ (by omega), if_neg (by omega)]) D).mono (by omega)
    · rw [show quc S q x = some k from g1] at ew cw
      refine Or.inl ⟨(-4, 2), by simp, ?_, ?_⟩
      · by_cases e : 16 ≤ q
        · simp (disch := omega) only [f_X4_queueLot, f_X0_append, c_slotWith R.c1 R.c, h1, oi_s, q1, nI_pos', li_16, nI_leI, nI_ltI, nI_eq, nI_add, pk_mul, pk_sub, nI_clamp, ib_nI, if_pos, if_neg, if_true, if_false, eq_self, ob]
        · simp (disch := omega) only [f_X4_queueLot, f_X0_append, c_slotWith R.c1 R.c, h1, oi_s, cw, q1, nI_pos', nI_pos, li_16, nI_leI, nI_ltI, nI_eq, nI_add, pk_mul, pk_sub, nI_clamp, ib_nI, if_pos, if_neg, if_true, if_false, eq_self, ob]
      · simp (disch := omega) only [f_X7_joins, r_placeOf R, h1, oi_s, ew, nI_m1, nI_m1', m1_lt, m1_lt', m1_le, m1_le', n01, n10, n1z, n1z', n11, nI_leI, nI_ltI, nI_eq, nI_add, pk_mul, pk_sub, nI_clamp, ib_nI, if_pos, if_neg, if_true, if_false, eq_self, ob]
theorem op_release (s : St N S (M.2 0)) (x : Int32) : Op N S M [(-1, 1), (-5, 2)] (f_X4_releaseLot S x) (f_X7_releases M x) := by
  obtain ⟨c, t, q, R, I, D⟩ := s
  have hc := R.c
  obtain ⟨n3, n4, n5, n6⟩ := R.nums
  obtain ⟨b, hb0, hb, eb⟩ := I.2.2.2
  have n4' : M.2 0 4 = nI b := n4.trans eb
  rcases fnd_at (g := S.2 0) (x := x) (c := c) with ⟨h1, h2⟩ | ⟨p, h1, h2, h3, h4⟩
  · refine Or.inl ⟨(-1, 1), by simp, ?_, ?_⟩
    · simp (disch := omega) only [f_X4_releaseLot, c_slotWith R.c1 R.c, h1, oi_n, m1_le, nI_leI, nI_ltI, nI_eq, nI_add, pk_mul, pk_sub, nI_clamp, ib_nI, if_pos, if_neg, if_true, if_false, eq_self, ob, li_0]
    · simp (disch := omega) only [f_X7_releases, r_placeOf R, h1, oi_n, nI_leI, nI_ltI, nI_eq, nI_add, pk_mul, pk_sub, nI_clamp, ib_nI, if_pos, if_neg, if_true, if_false, eq_self, ob]
  · have od := c_dutyOf I.2.1 I.1 R.c h2
    have ow := r_owed R I.2.1 I.1 h2
    have ol := owe_le I.2.1 I.1 h2
    by_cases g : owe S t p ≤ b
    · have R1 := (R.num (k := 3) (i := 4) (by omega) (nI (b - owe S t p))).num (k := 4) (i := 5) (by omega) (S.1 4 + nI (owe S t p))
      have I1 : Inv (wrI (wrI S 3 (nI (b - owe S t p))) 4 (S.1 4 + nI (owe S t p))) c t q := (I.num (by omega) (fun _ => ⟨b - owe S t p, by omega, by omega, rfl⟩)).num (by omega) (fun h => absurd h (by omega))
      have D1 : IdOK (wrI (wrI S 3 (nI (b - owe S t p))) 4 (S.1 4 + nI (owe S t p))) c N := (D.num (by omega)).num (by omega)
      obtain ⟨S', M', k1, k2, k3, k4, k5, k6⟩ := lv_both R1 I1.2.2.1 h2 (fun p' _ h => I1.1.1 p' h)
      have I2 := k3.ok h2 R.c R.q (fun p' h _ => I1.1.1 p' h) I1.1.2 I1.2.1 I1.2.2.1 I1.2.2.2
      refine Or.inr ⟨owe S t p, S', wrI M' 7 (nI (owe S t p)), by omega, ?_, ?_, by rw [wrI_1, if_pos rfl], ⟨fun k hk => by rw [wrI_1, if_neg hk, k5]; rfl, fun j y h0 _ => by rw [wrI_2, k6 j y h0, wrA_2, if_neg h0, wrA_2, if_neg h0]⟩, _, _, _, k4, I2, ?_⟩
      · simp (disch := omega) only [f_X4_releaseLot, c_slotWith R.c1 R.c, h1, oi_s, od, eb, nI_pos', k1, nI_leI, nI_ltI, nI_eq, nI_add, pk_mul, pk_sub, nI_clamp, ib_nI, if_pos, if_neg, if_true, if_false, eq_self, ob]
      · have n5' : M.2 0 5 = S.1 4 := n5
        simp (disch := omega) only [f_X7_releases, r_placeOf R, h1, oi_s, ow, n4', n5', nI_m1, nI_m1', m1_lt, m1_lt', m1_le, m1_le', n01, n10, n1z, n1z', n11, li_4, li_5, wr_at, k2, f_X7_done, nI_leI, nI_ltI, nI_eq, nI_add, pk_mul, pk_sub, nI_clamp, ib_nI, if_pos, if_neg, if_true, if_false, eq_self, ob]
      · refine IdOK.mono (N := N) ⟨by rw [k3.1]; exact D1.1, fun p' hp' => ?_⟩ (by omega)
        rw [k3.2.1 0 p' hp' (by omega)]
        exact D1.2 _ (by split <;> omega)
    · refine Or.inl ⟨(-5, 2), by simp, ?_, ?_⟩
      · simp (disch := omega) only [f_X4_releaseLot, c_slotWith R.c1 R.c, h1, oi_s, od, eb, nI_pos', nI_leI, nI_ltI, nI_eq, nI_add, pk_mul, pk_sub, nI_clamp, ib_nI, if_pos, if_neg, if_true, if_false, eq_self, ob]
      · simp (disch := omega) only [f_X7_releases, r_placeOf R, h1, oi_s, ow, n4', nI_m1, nI_m1', m1_lt, m1_lt', m1_le, m1_le', n01, n10, n1z, n1z', n11, li_4, nI_leI, nI_ltI, nI_eq, nI_add, pk_mul, pk_sub, nI_clamp, ib_nI, if_pos, if_neg, if_true, if_false, eq_self, ob]
end OPS3
