/-! duties asked for; the greatest number of releases -/
section ASKS3
variable {S M : Mem} {N : Nat}
theorem q_dutyOn (s : St N S (M.2 0)) (x : Int32) : ((x < 0 ∨ nI 9999 < x) ∧ Thr M 1 (f_X7_dutyOn M x) ∧ Thr M 1 (f_X7_dutyOnByCoins M x)) ∨ ((¬ (x < 0 ∨ nI 9999 < x)) ∧ ∃ r, f_X5_dutyByParts S x = some r ∧ f_X5_dutyByCoins S x = some r ∧ Val M r (f_X7_dutyOn M x) ∧ Val M r (f_X7_dutyOnByCoins M x)) := by
  obtain ⟨c, t, q, R, I, D⟩ := s
  rcases in_cases x 0 9999 (by omega) (by omega) with ⟨h1, h2⟩ | ⟨h1, v, h0, hv, rfl⟩
  · have e : f_X7_dutyOn M x = some (0, wrI M 0 (nI 1)) := by
      rw [f_X7_dutyOn, show f_X7_in x 0 9999 = some 0 from h1, ob, if_pos rfl]
      rfl
    exact Or.inl ⟨h2, Thr.of 0 e, Thr.of 0 (by rw [f_X7_dutyOnByCoins, e, ob])⟩
  · have e : f_X7_dutyOn M (nI v) = some (nI (dty S t v), wrI M 0 (nI 0)) := by
      have h5 : f_X7_charged (wrI M 0 0) (nI v) = some (nI (dty S t v)) := r_charged (M := wrI M 0 0) R I.2.1 hv
      rw [f_X7_dutyOn, show f_X7_in (nI v) 0 9999 = some 1 from h1, ob, if_neg (by decide), h5, ob]
      rfl
    refine Or.inr ⟨fun h => ?_, _, c_parts I.2.1 hv, c_coins I.2.1 hv, Val.of e, Val.of (by rw [f_X7_dutyOnByCoins, e, ob])⟩
    rcases h with h | h
    · exact nI_pos (by omega) h
    · rw [nI_ltI (by omega) (by omega)] at h
      omega
theorem sI_add (g h : Nat → Int32) : ∀ n, sI (fun p => g p + h p) n = sI g n + sI h n := by
  intro n
  induction n with
  | zero => rfl
  | succ n ih =>
    rw [sI, sI, sI, ih, Int32.add_assoc, Int32.add_assoc]
    congr 1
    rw [← Int32.add_assoc, ← Int32.add_assoc, Int32.add_comm (sI h n) (g n)]
theorem sI_0 : ∀ n, sI (fun _ => 0) n = 0 := by
  intro n
  induction n with
  | zero => rfl
  | succ n ih => rw [sI, ih]; rfl
theorem sI_one (k : Nat) (v : Int32) : ∀ n, sI (fun b => if b = k then v else 0) n = if k < n then v else 0 := by
  intro n
  induction n with
  | zero => rw [if_neg (by omega)]; rfl
  | succ n ih =>
    rw [sI, ih]
    by_cases e : n = k
    · rw [if_neg (by omega), if_pos e, if_pos (by omega), Int32.zero_add]
    · rw [if_neg e, Int32.add_zero]
      by_cases f : k < n
      · rw [if_pos f, if_pos (by omega)]
      · rw [if_neg f, if_neg (by omega)]
theorem fnd_snoc (p : Nat → Bool) : ∀ d i, fnd p (d + 1) i = fk (fnd p d i) (if p (i + d) = true then some (i + d) else none) some := by
  intro d
  induction d with
  | zero => intro i; rw [fnd, fnd, fnd, Nat.add_zero, fk_n]
  | succ d ih =>
    intro i
    rw [show fnd p (d + 1 + 1) i = if p i = true then some i else fnd p (d + 1) (i + 1) from rfl, show fnd p (d + 1) i = if p i = true then some i else fnd p d (i + 1) from rfl]
    by_cases h : p i = true
    · rw [if_pos h, if_pos h, fk_s]
    · rw [if_neg h, if_neg h, ih (i + 1), show i + 1 + d = i + (d + 1) by omega]
/-- bay by bay, or in the order of the lots -/
theorem byBays (d : Nat → Int32) : ∀ c, (∀ p, p < c → inR (S.2 4 p) 0 23) → (∀ p p', p < c → p' < c → S.2 4 p = S.2 4 p' → p = p') → sI (fun b => fk (byc S c (nI b)) 0 d) 24 = sI d c := by
  intro c
  induction c with
  | zero => intro _ _; exact sI_0 24
  | succ c ih =>
    intro h1 h2
    have := ih (fun p hp => h1 p (by omega)) (fun p p' hp hp' => h2 p p' (by omega) (by omega))
    obtain ⟨k, _, hk, ek⟩ := h1 c (by omega)
    show _ = sI d c + d c
    rw [← this]
    have e : sI (fun b => fk (byc S (c + 1) (nI b)) 0 d) 24 = sI (fun b => fk (byc S c (nI b)) 0 d + if b = k then d c else 0) 24 := by
      refine sI_congr 24 (fun b hb => ?_)
      rw [show byc S (c + 1) (nI b) = _ from fnd_snoc _ c 0, Nat.zero_add]
      by_cases g : b = k
      · rw [if_pos g]
        have hn : byc S c (nI b) = none := fnd_no (fun j _ hj => by
          have : ¬ S.2 4 j = nI b := fun h => by
            have := h2 j c (by omega) (by omega) (by rw [h, ek, g])
            omega
          simpa using this)
        rw [show fnd (fun p => decide (S.2 4 p = nI b)) c 0 = none from hn, show byc S c (nI b) = none from hn, fk_n, fk_n, if_pos (by rw [ek, g]; simp), fk_s, Int32.zero_add]
      · rw [if_neg g, Int32.add_zero]
        have hne : ¬ (decide (S.2 4 c = nI b) = true) := by
          rw [ek, decide_eq_true_eq, nI_eq (by omega) (by omega)]
          omega
        rw [if_neg hne]
        unfold byc
        cases fnd (fun p => decide (S.2 4 p = nI b)) c 0 <;> rfl
    rw [e, sI_add, sI_one, if_pos (by omega)]
theorem q_total (s : St N S (M.2 0)) : ∃ r, f_X4_dutyInOrderOfIds S = some r ∧ f_X4_dutyBayByBay S = some r ∧ Val M r (f_X7_totalDuty M) ∧ Val M r (f_X7_totalDutyByBays M) ∧ f_X4_dutiesAgree S = some 1 := by
  obtain ⟨c, t, q, R, I, D⟩ := s
  have hc := R.c
  have cc := R.c1
  have mc := R.c2
  have hM : f_X7_totalDuty M = some (sI (fun p => nI (owe S t p)) c, wrI M 0 (nI 0)) := by
    rw [f_X7_totalDuty, li_0]
    refine lpA (fun n i a => f_X7_totalDuty_L9 (wrI M 0 (nI 0)) (fun y5_1 => some (y5_1, (wrI M 0 (nI 0)))) n a i) (fun y5_1 => some (y5_1, (wrI M 0 (nI 0)))) (fun p => nI (owe S t p)) c ?_ ?_ (by omega)
    · intro n a
      simp (disch := omega) only [f_X7_totalDuty_L9, mc, wrI_2, li_0, li_1, li_2, li_3, li_4, li_5, li_6, li_7, li_8, li_9, li_10, li_11, li_12, li_16, li_20, li_23, li_24, li_30, li_32, li_35, li_37, li_40, li_42, li_46, li_48, li_53, li_57, li_58, li_59, li_60, li_63, li_64, li_65, li_97, li_99, li_100, li_101, li_120, li_126, li_132, li_148, li_300, li_999, li_1036, li_1184, li_9999, nn1, nI_leI, nI_ltI, nI_eq, nI_add, pk_mul, pk_sub, nI_clamp, ib_nI, if_pos, if_neg, if_true, if_false, eq_self, ob]
    · intro n i a hi
      have h5 : f_X7_owed (wrI M 0 (nI 0)) (nI i) = some (nI (owe S t i)) := r_owed (M := wrI M 0 (nI 0)) R I.2.1 I.1 hi
      have i1 : ib 1 148 = true := by decide +kernel
      have c1 : Int32.toNatClampNeg 1 = 1 := by decide +kernel
      have zc : ¬ (wrI M 0 (nI 0)).2 0 1 ≤ nI i := by rw [wrI_2, mc, nI_leI (by omega) (by omega)]; omega
      rw [f_X7_totalDuty_L9, if_pos i1, c1, if_neg zc, h5, ob, li_1, nI_add]
  refine ⟨sI (fun p => nI (owe S t p)) c, ?_, ?_, Val.of hM, Val.of (by rw [f_X7_totalDutyByBays, hM, ob]), ?_⟩
  · rw [f_X4_dutyInOrderOfIds, li_0]
    refine lpA (fun n i a => f_X4_dutyInOrderOfIds_L4 S (fun y => some y) n a i) (fun y => some y) (fun p => nI (owe S t p)) c ?_ ?_ (by omega)
    · intro n a
      simp (disch := omega) only [f_X4_dutyInOrderOfIds_L4, cc, li_0, li_1, li_2, li_3, li_4, li_5, li_6, li_7, li_8, li_9, li_10, li_11, li_12, li_16, li_20, li_23, li_24, li_30, li_32, li_35, li_37, li_40, li_42, li_46, li_48, li_53, li_57, li_58, li_59, li_60, li_63, li_64, li_65, li_97, li_99, li_100, li_101, li_120, li_126, li_132, li_148, li_300, li_999, li_1036, li_1184, li_9999, nn1, nI_leI, nI_ltI, nI_eq, nI_add, pk_mul, pk_sub, nI_clamp, ib_nI, if_pos, if_neg, if_true, if_false, eq_self, ob]
    · intro n i a hi
      rw [f_X4_dutyInOrderOfIds_L4, cc, if_neg (nI_ge hi (by omega)), c_dutyOf I.2.1 I.1 hc hi, ob, li_1, nI_add]
  · rw [← byBays (S := S) (fun p => nI (owe S t p)) c (fun p hp => (I.1.1 p hp).2.2.2.1) I.1.2, f_X4_dutyBayByBay, li_0]
    refine lpA (fun n i a => f_X4_dutyBayByBay_L4 S (fun y => some y) n a i) (fun y => some y) (fun b => fk (byc S c (nI b)) 0 (fun p => nI (owe S t p))) 24 ?_ ?_ (by omega)
    · intro n a
      simp (disch := omega) only [f_X4_dutyBayByBay_L4, li_0, li_1, li_2, li_3, li_4, li_5, li_6, li_7, li_8, li_9, li_10, li_11, li_12, li_16, li_20, li_23, li_24, li_30, li_32, li_35, li_37, li_40, li_42, li_46, li_48, li_53, li_57, li_58, li_59, li_60, li_63, li_64, li_65, li_97, li_99, li_100, li_101, li_120, li_126, li_132, li_148, li_300, li_999, li_1036, li_1184, li_9999, nn1, nI_leI, nI_ltI, nI_eq, nI_add, pk_mul, pk_sub, nI_clamp, ib_nI, if_pos, if_neg, if_true, if_false, eq_self, ob]
    · intro n i a hi
      rw [f_X4_dutyBayByBay_L4, li_24, if_neg (nI_ge hi (by omega)), c_slotAt cc hc, ob]
      rcases fnd_at (g := S.2 4) (x := nI i) (c := c) with ⟨g1, g2⟩ | ⟨p, g1, g2, g3, g4⟩
      · rw [show fnd (fun p => decide (S.2 4 p = nI i)) c 0 = none from g1, oi_n, if_pos (by decide), li_1, nI_add, show byc S c (nI i) = none from g1, fk_n, Int32.add_zero]
      · rw [show fnd (fun p => decide (S.2 4 p = nI i)) c 0 = some p from g1, oi_s, if_neg (nI_pos (by omega)), c_dutyOf I.2.1 I.1 hc g2, ob, show byc S c (nI i) = some p from g1, fk_s, li_1, nI_add]
  · rw [f_X4_dutiesAgree, li_0]
    refine (lpS (fun n i => f_X4_dutiesAgree_L2 S (some 1) n i) (some 1) (fun _ => false) (fun _ => none) c ?_ ?_ c 40 0 (by omega) (by omega)).trans ?_
    · intro n
      simp (disch := omega) only [f_X4_dutiesAgree_L2, cc, li_0, li_1, li_2, li_3, li_4, li_5, li_6, li_7, li_8, li_9, li_10, li_11, li_12, li_16, li_20, li_23, li_24, li_30, li_32, li_35, li_37, li_40, li_42, li_46, li_48, li_53, li_57, li_58, li_59, li_60, li_63, li_64, li_65, li_97, li_99, li_100, li_101, li_120, li_126, li_132, li_148, li_300, li_999, li_1036, li_1184, li_9999, nn1, nI_leI, nI_ltI, nI_eq, nI_add, pk_mul, pk_sub, nI_clamp, ib_nI, if_pos, if_neg, if_true, if_false, eq_self, ob]
    · intro n i hi
      obtain ⟨e, v1, v2⟩ := (I.1.1 i hi).val
      rw [f_X4_dutiesAgree_L2, cc, if_neg (nI_ge hi (by omega)), c_valueOf S (by omega), ob, e, c_parts I.2.1 (by omega), ob, c_coins I.2.1 (by omega), ob, if_pos rfl, if_neg (by decide), li_1, nI_add]
    · rw [fnd_no (fun _ _ _ => rfl), fk_n]
end ASKS3
/-! insertion sort -/
theorem ins_perm {α : Type} (f g : Nat → α) (v : α) : ∀ n pl, pl ≤ n → (∀ k, k < pl → g k = f k) → g pl = v → (∀ k, pl < k → k ≤ n → g k = f (k - 1)) → List.Perm ((List.range (n + 1)).map g) (v :: (List.range n).map f) := by
  intro n
  induction n with
  | zero =>
    intro pl h0 h1 h2 h3
    have e : pl = 0 := by omega
    subst e
    simp [List.range_succ, h2]
  | succ n ih =>
    intro pl h0 h1 h2 h3
    rw [List.range_succ, List.map_append]
    by_cases e : pl = n + 1
    · subst e
      have hm : (List.range (n + 1)).map g = (List.range (n + 1)).map f := List.map_congr_left (fun k hk => h1 k (List.mem_range.mp hk))
      rw [hm, List.map_cons, List.map_nil, h2]
      exact List.perm_append_comm
    · have := ih pl (by omega) h1 h2 (fun k a b => h3 k a (by omega))
      have e2 : (List.range (n + 1)).map f = (List.range n).map f ++ [f n] := by rw [List.range_succ, List.map_append]; rfl
      rw [e2, List.map_cons, List.map_nil, h3 (n + 1) (by omega) (by omega)]
      exact (this.append_right [f n])
section MOST
variable {S M : Mem} {N : Nat}
theorem c_sort {c t : Nat} (hc : S.1 0 = nI c) (h : c ≤ 16) (T : TrfOK S t) (L : LotsOK S c) (B : Mem) : ∃ (B' : Mem) (sl : Nat → Nat), f_X4_sortDutiesInto S B = some B' ∧ (∀ k, k < c → B'.2 0 k = nI (sl k) ∧ sl k ≤ 9801) ∧ (∀ k k', k ≤ k' → k' < c → sl k ≤ sl k') ∧ List.Perm ((List.range c).map sl) ((List.range c).map (owe S t)) := by
  rw [f_X4_sortDutiesInto, li_0]
  have H := lpI (fun n i a => f_X4_sortDutiesInto_L2 S (fun B_12 => some B_12) n i a) (fun B_12 => some B_12) (fun i a => ∃ sl : Nat → Nat, (∀ k, k < i → a.2 0 k = nI (sl k) ∧ sl k ≤ 9801) ∧ (∀ k k', k ≤ k' → k' < i → sl k ≤ sl k') ∧ List.Perm ((List.range i).map sl) ((List.range i).map (owe S t))) c ?_ ?_ c 40 0 B (by omega) (by omega) ⟨fun _ => 0, fun k hk => absurd hk (by omega), fun k k' _ hk => absurd hk (by omega), List.Perm.refl _⟩
  · obtain ⟨B', ⟨sl, h1, h2, h3⟩, h4⟩ := H
    exact ⟨B', sl, h4, h1, h2, h3⟩
  · intro n a _
    simp (disch := omega) only [f_X4_sortDutiesInto_L2, hc, nI_leI, nI_ltI, nI_eq, nI_add, pk_mul, pk_sub, nI_clamp, ib_nI, if_pos, if_neg, if_true, if_false, eq_self, ob]
  · intro n i a hi ⟨sl, h1, h2, h3⟩
    obtain ⟨pl, -, p1, p2, p3⟩ := below sl (owe S t i + 1) i 0 (by omega) (fun k h => absurd h (by omega))
    have p4 : ∀ k, pl ≤ k → k < i → owe S t i < sl k := by
      intro k hk hki
      rcases p3 with p3 | p3
      · omega
      · have := h2 pl k hk hki
        omega
    have ho := owe_le T L hi
    have HL := lpU (fun n' k b => f_X4_sortDutiesInto_L28 (nI i) (nI (owe S t i)) S (fun y10_4 B_10 =>
          if ib y10_4 16 = true then
          f_X4_sortDutiesInto_L2 S (fun B_12 => some B_12) n (nI i + 1) (wrA B_10 0 y10_4 (nI (owe S t i)))
          else none) n' k b) (fun B_10 => f_X4_sortDutiesInto_L2 S (fun B_12 => some B_12) n (nI (i + 1)) (wrA B_10 0 (nI pl) (nI (owe S t i)))) (fun m b => m ≤ i ∧ ∀ k, k ≤ i → k ≠ m → b.2 0 k = a.2 0 (if m < k then k - 1 else k)) pl ?_ ?_ (i - pl) 40 i a (by omega) (by omega) ⟨Nat.le_refl i, fun k hk hne => by rw [if_neg (by omega)]⟩
    · obtain ⟨b, ⟨b0, b1⟩, b2⟩ := HL
      refine ⟨wrA b 0 (nI pl) (nI (owe S t i)), ⟨fun k => if k = pl then owe S t i else sl (if pl < k then k - 1 else k), fun k hk => ?_, fun k k' hk hk' => ?_, ?_⟩, ?_⟩
      · dsimp only
        rw [wr_at _ _ (by omega)]
        by_cases e : k = pl
        · rw [if_pos ⟨rfl, e⟩, if_pos e]
          exact ⟨rfl, ho⟩
        · rw [if_neg (fun h => e h.2), if_neg e, b1 k (by omega) e]
          exact h1 _ (by split <;> omega)
      · simp only
        by_cases e : k = pl
        · rw [if_pos e]
          by_cases e' : k' = pl
          · rw [if_pos e']
            omega
          · rw [if_neg e', if_pos (by omega)]
            exact Nat.le_of_lt (p4 (k' - 1) (by omega) (by omega))
        · rw [if_neg e]
          by_cases e' : k' = pl
          · rw [if_pos e', if_neg (by omega)]
            have := p2 k (by omega)
            omega
          · rw [if_neg e']
            exact h2 _ _ (by split <;> split <;> omega) (by split <;> omega)
      · refine (ins_perm sl _ (owe S t i) i pl p1 (fun k hk => ?_) ?_ (fun k hk hk2 => ?_)).trans ?_
        · rw [if_neg (by omega), if_neg (by omega)]
        · rw [if_pos rfl]
        · rw [if_neg (by omega), if_pos hk]
        · rw [List.range_succ, List.map_append, List.map_cons, List.map_nil]
          exact (List.Perm.cons _ h3).trans (List.perm_append_comm (l₁ := [owe S t i]))
      · rw [f_X4_sortDutiesInto_L2, hc, if_neg (nI_ge hi (by omega)), li_16, if_neg (nI_ge (by omega) (by omega)), c_dutyOf T L h hi, ob]
        exact b2
    · intro n' b ⟨b0, b1⟩
      by_cases e : pl = 0
      · subst e
        simp (disch := omega) only [f_X4_sortDutiesInto_L28, nI_leI, nI_ltI, nI_eq, nI_add, pk_mul, pk_sub, nI_clamp, ib_nI, if_pos, if_neg, if_true, if_false, eq_self, ob, li_0, li_1]
      · have g1 := b1 (pl - 1) (by omega) (by omega)
        rw [if_neg (by omega), (h1 (pl - 1) (by omega)).1] at g1
        have g2 := p2 (pl - 1) (by omega)
        have g3 := (h1 (pl - 1) (by omega)).2
        simp (disch := omega) only [f_X4_sortDutiesInto_L28, g1, nI_leI, nI_ltI, nI_eq, nI_add, pk_mul, pk_sub, nI_clamp, ib_nI, if_pos, if_neg, if_true, if_false, eq_self, ob, li_0, li_1]
    · intro n' m b hm ⟨b0, b1⟩
      have g1 := b1 m (by omega) (by omega)
      rw [if_neg (by omega), (h1 m (by omega)).1] at g1
      have g2 := p4 m hm (by omega)
      have g3 := (h1 m (by omega)).2
      refine ⟨wrA b 0 (nI (m + 1)) (nI (sl m)), ⟨by omega, fun k hk hne => ?_⟩, ?_⟩
      · rw [wr_at _ _ (by omega)]
        by_cases e : k = m + 1
        · rw [if_pos ⟨rfl, e⟩, if_pos (by omega), e]
          exact ((h1 m (by omega)).1).symm
        · rw [if_neg (fun h => e h.2), b1 k hk (by omega)]
          by_cases f : m < k
          · rw [if_pos (by omega), if_pos f]
          · rw [if_neg (by omega), if_neg f]
      · simp (disch := omega) only [f_X4_sortDutiesInto_L28, g1, pk_m1, pk_m1', Nat.add_sub_cancel, nI_leI, nI_ltI, nI_eq, nI_add, pk_mul, pk_sub, nI_clamp, ib_nI, if_pos, if_neg, if_true, if_false, eq_self, ob, li_0, li_1]
end MOST
