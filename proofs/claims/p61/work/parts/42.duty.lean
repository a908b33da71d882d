/-! the tariff: its numbers, the duty by parts, by coins, the model's -/
abbrev thr (S : Mem) (k : Nat) : Nat := nv (S.2 7 k)
abbrev rat (S : Mem) (k : Nat) : Nat := nv (S.2 8 k)
def TrfOK (S : Mem) (t : Nat) : Prop := S.1 2 = nI t ∧ t ≤ 6 ∧ (∀ k, k < t → S.2 7 k = nI (thr S k) ∧ thr S k ≤ 9999 ∧ S.2 8 k = nI (rat S k) ∧ rat S k ≤ 100) ∧ ∀ k k', k < k' → k' < t → thr S k < thr S k'
def seg (th ra : Nat → Nat) (t v k : Nat) : Nat := ((if k + 1 < t then (if th (k + 1) < v then th (k + 1) else v) else v) - th k) * ra k
def dN (th ra : Nat → Nat) (t v : Nat) : Nat → Nat
  | 0 => 0
  | j + 1 => dN th ra t v j + seg th ra t v j
def dty (S : Mem) (t v : Nat) : Nat := dN (thr S) (rat S) t v t / 100
theorem ps_pos {a b : Nat} (ha : a < 2 ^ 30) (hb : b < 2 ^ 30) : nI 0 < nI a - nI b ↔ b < a := by
  rw [Int32.lt_iff_toInt_lt, pk_sub_toInt ha hb, nI_toInt (by omega)]
  omega
theorem c_dutyByParts {S : Mem} {t v : Nat} (T : TrfOK S t) (hv : v ≤ 9999) (hb : dN (thr S) (rat S) t v t < 2 ^ 31) : f_X5_dutyByParts S (nI v) = some (nI (dty S t v)) := by
  obtain ⟨hc, ht, hk, -⟩ := T
  unfold f_X5_dutyByParts
  rw [li_0]
  have H := lpI (fun n i a => f_X5_dutyByParts_L4 (nI v) S (fun y => some (y / 100)) n a i) (fun y => some (y / 100)) (fun i a => a = nI (dN (thr S) (rat S) t v i)) t ?_ ?_ t 40 0 (nI 0) (by omega) (by omega) rfl
  · obtain ⟨a', h1, h2⟩ := H
    refine h2.trans ?_
    rw [h1, li_100, pk_div hb (by omega) (by omega)]
    rfl
  · intro n a _
    simp (disch := omega) only [f_X5_dutyByParts_L4, hc, li_0, li_1, li_2, li_3, li_4, li_5, li_6, li_7, li_8, li_9, li_10, li_11, li_12, li_16, li_20, li_23, li_24, li_30, li_32, li_35, li_37, li_40, li_42, li_46, li_48, li_53, li_57, li_58, li_59, li_60, li_63, li_64, li_65, li_97, li_99, li_100, li_101, li_120, li_126, li_132, li_148, li_300, li_999, li_1036, li_1184, li_9999, nn1, nI_leI, nI_ltI, nI_eq, nI_add, pk_mul, pk_sub, nI_clamp, ib_nI, if_pos, if_neg, if_true, if_false, eq_self, ob]
  · intro n i a hi ha
    obtain ⟨e1, l1, e2, l2⟩ := hk i hi
    refine ⟨_, rfl, ?_⟩
    subst ha
    rw [dN, seg]
    by_cases h1 : i + 1 < t
    · obtain ⟨e3, l3, -, -⟩ := hk (i + 1) h1
      by_cases h3 : thr S (i + 1) < v
      · by_cases h4 : thr S i < thr S (i + 1)
        · simp (disch := omega) only [f_X5_dutyByParts_L4, hc, e1, e2, e3, ps_pos, li_0, li_1, li_2, li_3, li_4, li_5, li_6, li_7, li_8, li_9, li_10, li_11, li_12, li_16, li_20, li_23, li_24, li_30, li_32, li_35, li_37, li_40, li_42, li_46, li_48, li_53, li_57, li_58, li_59, li_60, li_63, li_64, li_65, li_97, li_99, li_100, li_101, li_120, li_126, li_132, li_148, li_300, li_999, li_1036, li_1184, li_9999, nn1, nI_leI, nI_ltI, nI_eq, nI_add, pk_mul, pk_sub, nI_clamp, ib_nI, if_pos, if_neg, if_true, if_false, eq_self, ob]
        · simp (disch := omega) only [f_X5_dutyByParts_L4, hc, e1, e2, e3, ps_pos, Nat.sub_eq_zero_of_le, li_0, li_1, li_2, li_3, li_4, li_5, li_6, li_7, li_8, li_9, li_10, li_11, li_12, li_16, li_20, li_23, li_24, li_30, li_32, li_35, li_37, li_40, li_42, li_46, li_48, li_53, li_57, li_58, li_59, li_60, li_63, li_64, li_65, li_97, li_99, li_100, li_101, li_120, li_126, li_132, li_148, li_300, li_999, li_1036, li_1184, li_9999, nn1, nI_leI, nI_ltI, nI_eq, nI_add, pk_mul, pk_sub, nI_clamp, ib_nI, if_pos, if_neg, if_true, if_false, eq_self, ob]
      · by_cases h4 : thr S i < v
        · simp (disch := omega) only [f_X5_dutyByParts_L4, hc, e1, e2, e3, ps_pos, li_0, li_1, li_2, li_3, li_4, li_5, li_6, li_7, li_8, li_9, li_10, li_11, li_12, li_16, li_20, li_23, li_24, li_30, li_32, li_35, li_37, li_40, li_42, li_46, li_48, li_53, li_57, li_58, li_59, li_60, li_63, li_64, li_65, li_97, li_99, li_100, li_101, li_120, li_126, li_132, li_148, li_300, li_999, li_1036, li_1184, li_9999, nn1, nI_leI, nI_ltI, nI_eq, nI_add, pk_mul, pk_sub, nI_clamp, ib_nI, if_pos, if_neg, if_true, if_false, eq_self, ob]
        · simp (disch := omega) only [f_X5_dutyByParts_L4, hc, e1, e2, e3, ps_pos, Nat.sub_eq_zero_of_le, li_0, li_1, li_2, li_3, li_4, li_5, li_6, li_7, li_8, li_9, li_10, li_11, li_12, li_16, li_20, li_23, li_24, li_30, li_32, li_35, li_37, li_40, li_42, li_46, li_48, li_53, li_57, li_58, li_59, li_60, li_63, li_64, li_65, li_97, li_99, li_100, li_101, li_120, li_126, li_132, li_148, li_300, li_999, li_1036, li_1184, li_9999, nn1, nI_leI, nI_ltI, nI_eq, nI_add, pk_mul, pk_sub, nI_clamp, ib_nI, if_pos, if_neg, if_true, if_false, eq_self, ob]
    · by_cases h4 : thr S i < v
      · simp (disch := omega) only [f_X5_dutyByParts_L4, hc, e1, e2, ps_pos, li_0, li_1, li_2, li_3, li_4, li_5, li_6, li_7, li_8, li_9, li_10, li_11, li_12, li_16, li_20, li_23, li_24, li_30, li_32, li_35, li_37, li_40, li_42, li_46, li_48, li_53, li_57, li_58, li_59, li_60, li_63, li_64, li_65, li_97, li_99, li_100, li_101, li_120, li_126, li_132, li_148, li_300, li_999, li_1036, li_1184, li_9999, nn1, nI_leI, nI_ltI, nI_eq, nI_add, pk_mul, pk_sub, nI_clamp, ib_nI, if_pos, if_neg, if_true, if_false, eq_self, ob]
      · simp (disch := omega) only [f_X5_dutyByParts_L4, hc, e1, e2, ps_pos, Nat.sub_eq_zero_of_le, li_0, li_1, li_2, li_3, li_4, li_5, li_6, li_7, li_8, li_9, li_10, li_11, li_12, li_16, li_20, li_23, li_24, li_30, li_32, li_35, li_37, li_40, li_42, li_46, li_48, li_53, li_57, li_58, li_59, li_60, li_63, li_64, li_65, li_97, li_99, li_100, li_101, li_120, li_126, li_132, li_148, li_300, li_999, li_1036, li_1184, li_9999, nn1, nI_leI, nI_ltI, nI_eq, nI_add, pk_mul, pk_sub, nI_clamp, ib_nI, if_pos, if_neg, if_true, if_false, eq_self, ob]
/-- coin by coin: what one coin more costs -/
theorem dN_coin {th ra : Nat → Nat} {t v s : Nat} (hs : s ≤ t) (h1 : ∀ k, k < s → th k < v + 1) (h2 : s = t ∨ v + 1 ≤ th s) (hm : ∀ k k', k < k' → k' < t → th k < th k') :
    ∀ j, j ≤ t → dN th ra t (v + 1) j = dN th ra t v j + if 0 < s ∧ s - 1 < j then ra (s - 1) else 0 := by
  intro j
  induction j with
  | zero =>
    intro _
    rw [dN, dN, if_neg (by omega)]
  | succ j ih =>
    intro hj
    have h3 := ih (by omega)
    rw [dN, dN, h3]
    have h4 : ∀ k, s ≤ k → k < t → v + 1 ≤ th k := by
      intro k a b
      rcases h2 with h2 | h2
      · omega
      · by_cases e : k = s
        · rw [e]
          exact h2
        · have := hm s k (by omega) b
          omega
    have h5 : seg th ra t (v + 1) j = seg th ra t v j + if 0 < s ∧ s - 1 = j then ra (s - 1) else 0 := by
      unfold seg
      by_cases a : j + 1 < t
      · rw [if_pos a, if_pos a]
        by_cases b : s ≤ j
        · have x1 := h4 j b (by omega)
          have x2 := hm j (j + 1) (by omega) a
          rw [if_neg (show ¬ th (j + 1) < v + 1 by omega), if_neg (show ¬ th (j + 1) < v by omega), if_neg (show ¬ (0 < s ∧ s - 1 = j) by omega), Nat.sub_eq_zero_of_le (by omega), Nat.sub_eq_zero_of_le (by omega), Nat.add_zero]
        · by_cases d : s - 1 = j
          · have x1 := h4 (j + 1) (by omega) a
            have x2 := h1 j (by omega)
            rw [if_neg (show ¬ th (j + 1) < v + 1 by omega), if_neg (show ¬ th (j + 1) < v by omega), if_pos (show (0 < s ∧ s - 1 = j) by omega), d, show v + 1 - th j = (v - th j) + 1 by omega, Nat.add_mul, Nat.one_mul]
          · have x1 := h1 (j + 1) (by omega)
            rw [if_pos x1, if_neg (show ¬ (0 < s ∧ s - 1 = j) by omega), Nat.add_zero]
            by_cases f : th (j + 1) < v
            · rw [if_pos f]
              omega
            · rw [if_neg f, show th (j + 1) = v by omega, Nat.add_zero]
      · rw [if_neg a, if_neg a]
        by_cases b : s ≤ j
        · have x1 := h4 j b (by omega)
          rw [if_neg (show ¬ (0 < s ∧ s - 1 = j) by omega), Nat.sub_eq_zero_of_le (by omega), Nat.sub_eq_zero_of_le (by omega), Nat.add_zero]
        · have x2 := h1 j (by omega)
          rw [if_pos (show (0 < s ∧ s - 1 = j) by omega), show s - 1 = j by omega, show v + 1 - th j = (v - th j) + 1 by omega, Nat.add_mul, Nat.one_mul]
    rw [h5]
    by_cases b : 0 < s ∧ s - 1 < j
    · rw [if_pos b, if_neg (by omega), if_pos (by omega)]
      omega
    · rw [if_neg b]
      by_cases d : 0 < s ∧ s - 1 = j
      · rw [if_pos d, if_pos (by omega)]
        omega
      · rw [if_neg d, if_neg (by omega)]
        omega
theorem dN_0 {th ra : Nat → Nat} {t : Nat} : ∀ j, dN th ra t 0 j = 0 := by
  intro j
  induction j with
  | zero => rfl
  | succ j ih =>
    rw [dN, ih, seg]
    by_cases a : j + 1 < t
    · rw [if_pos a, if_neg (by omega), Nat.zero_sub, Nat.zero_mul]
    · rw [if_neg a, Nat.zero_sub, Nat.zero_mul]
/-- how many steps lie below a coin -/
theorem below (th : Nat → Nat) (x : Nat) : ∀ t s, s ≤ t → (∀ k, k < s → th k < x) → ∃ s', s ≤ s' ∧ s' ≤ t ∧ (∀ k, k < s' → th k < x) ∧ (s' = t ∨ x ≤ th s') := by
  intro t s
  induction h : t - s generalizing s with
  | zero => intro h1 h2; exact ⟨s, Nat.le_refl s, h1, h2, Or.inl (by omega)⟩
  | succ d ih =>
    intro h1 h2
    by_cases e : th s < x
    · obtain ⟨s', a, b, c, f⟩ := ih (s + 1) (by omega) (by omega) (fun k hk => by
        by_cases g : k = s
        · rw [g]
          exact e
        · exact h2 k (by omega))
      exact ⟨s', by omega, b, c, f⟩
    · exact ⟨s, Nat.le_refl s, h1, h2, Or.inr (by omega)⟩
theorem dN_le {th ra : Nat → Nat} {t : Nat} (hm : ∀ k k', k < k' → k' < t → th k < th k') (hr : ∀ k, k < t → ra k ≤ 100) : ∀ v, dN th ra t v t ≤ 100 * v := by
  intro v
  induction v with
  | zero => rw [dN_0]; omega
  | succ v ih =>
    obtain ⟨s, -, a, b, c⟩ := below th (v + 1) t 0 (by omega) (fun k h => absurd h (by omega))
    rw [dN_coin a b c hm t (Nat.le_refl t)]
    by_cases d : 0 < s ∧ s - 1 < t
    · rw [if_pos d]
      have := hr (s - 1) d.2
      omega
    · rw [if_neg d]
      omega
theorem TrfOK.bd {S : Mem} {t v : Nat} (T : TrfOK S t) (hv : v ≤ 9999) : dN (thr S) (rat S) t v t ≤ 999900 := by
  have := dN_le T.2.2.2 (fun k h => (T.2.2.1 k h).2.2.2) v
  omega
theorem c_parts {S : Mem} {t v : Nat} (T : TrfOK S t) (hv : v ≤ 9999) : f_X5_dutyByParts S (nI v) = some (nI (dty S t v)) := c_dutyByParts T hv (by have := T.bd hv; omega)
theorem c_coins {S : Mem} {t v : Nat} (T : TrfOK S t) (hv : v ≤ 9999) : f_X5_dutyByCoins S (nI v) = some (nI (dty S t v)) := by
  have hb := T.bd hv
  obtain ⟨hc, ht, hk, hm⟩ := T
  unfold f_X5_dutyByCoins
  rw [li_0, li_1]
  have inner : ∀ (x n : Nat) (kk : Int32 → Option Int32) (y : Int32) (s s' d : Nat), x ≤ 10000 → s + d = s' → d < n → s' ≤ t → (∀ k, k < s' → thr S k < x) → (s' = t ∨ x ≤ thr S s') → f_X5_dutyByCoins_L13 (nI v) y (nI x) S kk n (nI s) = kk (nI s') := by
    intro x n kk y s s' d hx
    induction d generalizing n s with
    | zero =>
      intro h1 h2 h3 h4 h5
      obtain ⟨m, rfl⟩ : ∃ m, n = m + 1 := ⟨n - 1, by omega⟩
      have e : s = s' := by omega
      subst e
      by_cases e : s = t
      · simp (disch := omega) only [f_X5_dutyByCoins_L13, hc, li_0, li_1, li_2, li_3, li_4, li_5, li_6, li_7, li_8, li_9, li_10, li_11, li_12, li_16, li_20, li_23, li_24, li_30, li_32, li_35, li_37, li_40, li_42, li_46, li_48, li_53, li_57, li_58, li_59, li_60, li_63, li_64, li_65, li_97, li_99, li_100, li_101, li_120, li_126, li_132, li_148, li_300, li_999, li_1036, li_1184, li_9999, nn1, nI_leI, nI_ltI, nI_eq, nI_add, pk_mul, pk_sub, nI_clamp, ib_nI, if_pos, if_neg, if_true, if_false, eq_self, ob]
      · obtain ⟨e1, l1, -, -⟩ := hk s (by omega)
        have : x ≤ thr S s := by omega
        simp (disch := omega) only [f_X5_dutyByCoins_L13, hc, e1, li_0, li_1, li_2, li_3, li_4, li_5, li_6, li_7, li_8, li_9, li_10, li_11, li_12, li_16, li_20, li_23, li_24, li_30, li_32, li_35, li_37, li_40, li_42, li_46, li_48, li_53, li_57, li_58, li_59, li_60, li_63, li_64, li_65, li_97, li_99, li_100, li_101, li_120, li_126, li_132, li_148, li_300, li_999, li_1036, li_1184, li_9999, nn1, nI_leI, nI_ltI, nI_eq, nI_add, pk_mul, pk_sub, nI_clamp, ib_nI, if_pos, if_neg, if_true, if_false, eq_self, ob]
    | succ d ih =>
      intro h1 h2 h3 h4 h5
      obtain ⟨m, rfl⟩ : ∃ m, n = m + 1 := ⟨n - 1, by omega⟩
      obtain ⟨e1, l1, -, -⟩ := hk s (by omega)
      have := h4 s (by omega)
      have g := ih m (s + 1) (by omega) (by omega) h3 h4 h5
      rw [← g]
      simp (disch := omega) only [f_X5_dutyByCoins_L13, hc, e1, li_0, li_1, li_2, li_3, li_4, li_5, li_6, li_7, li_8, li_9, li_10, li_11, li_12, li_16, li_20, li_23, li_24, li_30, li_32, li_35, li_37, li_40, li_42, li_46, li_48, li_53, li_57, li_58, li_59, li_60, li_63, li_64, li_65, li_97, li_99, li_100, li_101, li_120, li_126, li_132, li_148, li_300, li_999, li_1036, li_1184, li_9999, nn1, nI_leI, nI_ltI, nI_eq, nI_add, pk_mul, pk_sub, nI_clamp, ib_nI, if_pos, if_neg, if_true, if_false, eq_self, ob]
  have outer : ∀ (d n w s : Nat), w + d = v → d < n → s ≤ t → (∀ k, k < s → thr S k < w + 1) → f_X5_dutyByCoins_L7 (nI v) S (fun y => some (y / 100)) n (nI (dN (thr S) (rat S) t w t)) (nI s) (nI (w + 1)) = some (nI (dN (thr S) (rat S) t v t) / 100) := by
    intro d
    induction d with
    | zero =>
      intro n w s h1 h2 h3 h4
      obtain ⟨m, rfl⟩ : ∃ m, n = m + 1 := ⟨n - 1, by omega⟩
      have e : w = v := by omega
      subst e
      simp (disch := omega) only [f_X5_dutyByCoins_L7, nI_leI, nI_ltI, nI_eq, nI_add, pk_mul, pk_sub, nI_clamp, ib_nI, if_pos, if_neg, if_true, if_false, eq_self, ob]
    | succ d ih =>
      intro n w s h1 h2 h3 h4
      obtain ⟨m, rfl⟩ : ∃ m, n = m + 1 := ⟨n - 1, by omega⟩
      obtain ⟨s', a1, a2, a3, a4⟩ := below (thr S) (w + 1) t s h3 h4
      have g := ih m (w + 1) s' (by omega) (by omega) a2 (fun k h => Nat.lt_succ_of_lt (a3 k h))
      rw [← g, dN_coin a2 a3 a4 hm t (Nat.le_refl t)]
      have i1 := inner (w + 1) 10001 (fun y5_3 =>
        if y5_3 ≤ 0 then
          f_X5_dutyByCoins_L7 (nI v) S (fun y => some (y / 100)) m (nI (dN (thr S) (rat S) t w t)) y5_3 (nI (w + 1) + 1)
        else
          if ib (y5_3 - 1) 6 = true then
          f_X5_dutyByCoins_L7 (nI v) S (fun y => some (y / 100)) m (nI (dN (thr S) (rat S) t w t) + (S.2 8 (Int32.toNatClampNeg (y5_3 - 1)))) y5_3 (nI (w + 1) + 1)
          else none) (nI (dN (thr S) (rat S) t w t)) s s' (s' - s) (by omega) (by omega) (by omega) a2 a3 a4
      rw [f_X5_dutyByCoins_L7, if_neg (show ¬ nI v < nI (w + 1) by rw [nI_ltI (by omega) (by omega)]; omega), i1]
      by_cases e : s' = 0
      · subst e
        simp (disch := omega) only [Nat.add_zero, nI_leI, nI_ltI, nI_eq, nI_add, pk_mul, pk_sub, nI_clamp, ib_nI, if_pos, if_neg, if_true, if_false, eq_self, ob, li_0, li_1]
      · obtain ⟨-, -, e2, -⟩ := hk (s' - 1) (by omega)
        simp (disch := omega) only [e2, nI_leI, nI_ltI, nI_eq, nI_add, pk_mul, pk_sub, nI_clamp, ib_nI, if_pos, if_neg, if_true, if_false, eq_self, ob, li_0, li_1]
  have o := outer v 10001 0 0 (by omega) (by omega) (by omega) (fun k h => absurd h (by omega))
  rw [dN_0] at o
  rw [o, li_100, pk_div (by omega) (by omega) (by omega)]
  rfl
