/-! the greatest number of releases -/
theorem filt_perm (d : Nat → Nat) (m m' : Nat → Bool) (p0 : Nat) (h1 : m p0 = true) (h2 : m' p0 = false) (h3 : ∀ p, p ≠ p0 → m' p = m p) : ∀ c, p0 < c → List.Perm (((List.range c).filter m).map d) (d p0 :: ((List.range c).filter m').map d) := by
  have hs : ∀ c, c ≤ p0 → (List.range c).filter m' = (List.range c).filter m := by
    intro c hc
    refine List.filter_congr (fun x hx => ?_)
    exact h3 x (by have := List.mem_range.mp hx; omega)
  intro c
  induction c with
  | zero => intro h; exact absurd h (by omega)
  | succ c ih =>
    intro h
    rw [List.range_succ, List.filter_append, List.filter_append, List.map_append, List.map_append]
    by_cases e : p0 = c
    · subst e
      rw [hs p0 (Nat.le_refl p0)]
      have e1 : [p0].filter m = [p0] := by simp [h1]
      have e2 : [p0].filter m' = [] := by simp [h2]
      rw [e1, e2]
      simp only [List.map_cons, List.map_nil, List.append_nil]
      exact List.perm_append_comm
    · have := ih (by omega)
      have e1 : [c].filter m' = [c].filter m := by
        refine List.filter_congr (fun x hx => ?_)
        exact h3 x (by rw [List.mem_singleton] at hx; omega)
      rw [e1]
      exact this.append_right _
section MOST2
variable {S M : Mem} {N : Nat}
theorem m_least {c : Nat} {d : Nat → Nat} (mc : M.2 0 1 = nI c) (h : c ≤ 16) (ho : ∀ p, p < c → f_X7_owed M (nI p) = some (nI (d p)) ∧ d p ≤ 9801) (hm : ∀ p, p < c → M.2 9 p = nI 0 ∨ M.2 9 p = nI 1) (x1 x2 x3 : Int32) (k : Int32 → Option (Int32 × Mem)) :
    ∃ z, f_X7_mostReleases_L57 x1 x2 x3 M k 40 (-1) 0 = k z ∧ ((z = -1 ∧ ∀ p, p < c → M.2 9 p = nI 1) ∨ ∃ p, p < c ∧ z = nI p ∧ M.2 9 p = nI 0 ∧ ∀ p', p' < c → M.2 9 p' = nI 0 → d p ≤ d p') := by
  rw [li_0]
  have H := lpI (fun n i a => f_X7_mostReleases_L57 x1 x2 x3 M k n a i) k (fun i z => (z = -1 ∧ ∀ p, p < i → M.2 9 p = nI 1) ∨ ∃ p, p < i ∧ z = nI p ∧ M.2 9 p = nI 0 ∧ ∀ p', p' < i → M.2 9 p' = nI 0 → d p ≤ d p') c ?_ ?_ c 40 0 (-1) (by omega) (by omega) (Or.inl ⟨rfl, fun p hp => absurd hp (by omega)⟩)
  · obtain ⟨z, h1, h2⟩ := H
    exact ⟨z, h2, h1⟩
  · intro n a _
    simp (disch := omega) only [f_X7_mostReleases_L57, mc, li_0, li_1, li_2, li_3, li_4, li_5, li_6, li_7, li_8, li_9, li_10, li_11, li_12, li_16, li_20, li_23, li_24, li_30, li_32, li_35, li_37, li_40, li_42, li_46, li_48, li_53, li_57, li_58, li_59, li_60, li_63, li_64, li_65, li_97, li_99, li_100, li_101, li_120, li_126, li_132, li_148, li_300, li_999, li_1036, li_1184, li_9999, nn1, nI_leI, nI_ltI, nI_eq, nI_add, pk_mul, pk_sub, nI_clamp, ib_nI, if_pos, if_neg, if_true, if_false, eq_self, ob]
  · intro n i a hi ha
    have i1 : ib 1 148 = true := by decide +kernel
    have c1 : Int32.toNatClampNeg 1 = 1 := by decide +kernel
    have zc : ¬ M.2 0 1 ≤ nI i := by rw [mc, nI_leI (by omega) (by omega)]; omega
    have ibi : ib (nI i) 24 = true := ib_nI (by omega) (by omega)
    have icl : (nI i).toNatClampNeg = i := nI_clamp (by omega)
    rcases hm i hi with g | g
    · rcases ha with ⟨rfl, h2⟩ | ⟨p, h1, rfl, h3, h4⟩
      · refine ⟨nI i, Or.inr ⟨i, by omega, rfl, g, fun p' hp' hg => ?_⟩, ?_⟩
        · by_cases e : p' = i
          · rw [e]
            exact Nat.le_refl _
          · have := (h2 p' (by omega)).symm.trans hg
            exact absurd this (by decide)
        · rw [f_X7_mostReleases_L57, if_pos i1, c1, if_neg zc, if_pos ibi, icl, g, if_pos (show nI 0 = 0 from rfl), if_pos rfl, li_1, nI_add]
      · obtain ⟨o1, o2⟩ := ho i hi
        obtain ⟨o3, o4⟩ := ho p (by omega)
        by_cases e : d p ≤ d i
        · refine ⟨nI p, Or.inr ⟨p, by omega, rfl, h3, fun p' hp' hg => ?_⟩, ?_⟩
          · by_cases f : p' = i
            · rw [f]
              exact e
            · exact h4 p' (by omega) hg
          · rw [f_X7_mostReleases_L57, if_pos i1, c1, if_neg zc, if_pos ibi, icl, g, if_pos (show nI 0 = 0 from rfl), if_neg (by rw [nI_m1 (by omega)]; exact id), o1, ob, o3, ob, if_pos (nI_le e (by omega)), li_1, nI_add]
        · refine ⟨nI i, Or.inr ⟨i, by omega, rfl, g, fun p' hp' hg => ?_⟩, ?_⟩
          · by_cases f : p' = i
            · rw [f]
              exact Nat.le_refl _
            · have := h4 p' (by omega) hg
              omega
          · rw [f_X7_mostReleases_L57, if_pos i1, c1, if_neg zc, if_pos ibi, icl, g, if_pos (show nI 0 = 0 from rfl), if_neg (by rw [nI_m1 (by omega)]; exact id), o1, ob, o3, ob, if_neg (nI_ge (by omega) (by omega)), li_1, nI_add]
    · refine ⟨a, ?_, ?_⟩
      · rcases ha with ⟨h1, h2⟩ | ⟨p, h1, h2, h3, h4⟩
        · refine Or.inl ⟨h1, fun p hp => ?_⟩
          by_cases e : p = i
          · rw [e]
            exact g
          · exact h2 p (by omega)
        · refine Or.inr ⟨p, by omega, h2, h3, fun p' hp' hg => ?_⟩
          by_cases e : p' = i
          · rw [e] at hg
            have := g.symm.trans hg
            exact absurd this (by decide)
          · exact h4 p' (by omega) hg
      · rw [f_X7_mostReleases_L57, if_pos i1, c1, if_neg zc, if_pos ibi, icl, g, if_neg (by decide), li_1, nI_add]
theorem most_loop {c t q : Nat} {B : Mem} {sl : Nat → Nat} (R : Rel S (M.2 0) c t q) (T : TrfOK S t) (L : LotsOK S c) (hB : ∀ k, k < c → B.2 0 k = nI (sl k) ∧ sl k ≤ 9801) (hs : ∀ k k', k ≤ k' → k' < c → sl k ≤ sl k') :
    ∀ (e r n m lf : Nat) (a : Mem), r + e = c → e < n → e < m → lf ≤ 9999 → a.1 = M.1 → (∀ j y, j ≠ 9 → a.2 j y = M.2 j y) → (∀ p, p < c → a.2 9 p = nI 0 ∨ a.2 9 p = nI 1) → List.Perm (((List.range c).filter (fun p => decide (a.2 9 p = nI 0))).map (owe S t)) (((List.range c).map sl).drop r) →
      ∃ z a', f_X4_countReleases_L12 S B (some (S.1 0, B)) n (nI lf) (nI r) = some (z, B) ∧ f_X7_mostReleases_L41 (fun y M => some (y, M)) m (nI r) (nI lf) (nI r) a = some (z, a') ∧ a'.1 = M.1 ∧ ∀ j y, j ≠ 9 → a'.2 j y = M.2 j y := by
  intro e
  have hc := R.c
  have cc := R.c1
  have i1 : ib 1 148 = true := by decide +kernel
  have c1 : Int32.toNatClampNeg 1 = 1 := by decide +kernel
  induction e with
  | zero =>
    intro r n m lf a h1 h2 h3 h4 a1 a2 a3 a4
    obtain ⟨n', rfl⟩ : ∃ n', n = n' + 1 := ⟨n - 1, by omega⟩
    obtain ⟨m', rfl⟩ : ∃ m', m = m' + 1 := ⟨m - 1, by omega⟩
    have hr : r = c := by omega
    subst hr
    have mc : a.2 0 1 = nI r := by rw [a2 0 1 (by omega), R.c2]
    have hle : nI r ≤ nI r := nI_le (Nat.le_refl r) (by omega)
    refine ⟨nI r, a, ?_, ?_, a1, a2⟩
    · rw [f_X4_countReleases_L12, cc, if_pos hle]
    · rw [f_X7_mostReleases_L41, if_pos i1, c1, mc, if_pos hle]
  | succ e ih =>
    intro r n m lf a h1 h2 h3 h4 a1 a2 a3 a4
    obtain ⟨n', rfl⟩ : ∃ n', n = n' + 1 := ⟨n - 1, by omega⟩
    obtain ⟨m', rfl⟩ : ∃ m', m = m' + 1 := ⟨m - 1, by omega⟩
    have mc : a.2 0 1 = nI c := by rw [a2 0 1 (by omega), R.c2]
    have hle : ¬ nI c ≤ nI r := nI_ge (by omega) (by omega)
    have ho : ∀ (b : Mem), (∀ j y, j ≠ 9 → b.2 j y = M.2 j y) → ∀ p, p < c → f_X7_owed b (nI p) = some (nI (owe S t p)) ∧ owe S t p ≤ 9801 := by
      intro b hb p hp
      refine ⟨r_owed (M := b) (q := q) ?_ T L hp, owe_le T L hp⟩
      rw [show b.2 0 = M.2 0 from funext fun y => hb 0 y (by omega)]
      exact R
    have hdrop : ((List.range c).map sl).drop r = sl r :: ((List.range c).map sl).drop (r + 1) := by
      rw [List.drop_eq_getElem_cons (by simp; omega)]
      simp
    rw [hdrop] at a4
    have hB1 := hB r (by omega)
    -- the class' step
    have hC : f_X4_countReleases_L12 S B (some (S.1 0, B)) (n' + 1) (nI lf) (nI r) = if 0 ≤ nI lf - nI (sl r) then f_X4_countReleases_L12 S B (some (S.1 0, B)) n' (nI lf - nI (sl r)) (nI (r + 1)) else some (nI r, B) := by
      rw [f_X4_countReleases_L12, cc, if_neg hle, li_16, if_neg (nI_ge (by omega) (by omega)), if_pos (ib_nI (by omega) (by omega)), nI_clamp (by omega), hB1.1, li_1, nI_add]
    obtain ⟨z, z1, z2⟩ := m_least (M := a) (d := owe S t) mc hc (ho a a2) a3 (nI r) (nI lf) (nI r) (fun y18_4 =>
        if ib y18_4 24 = true then
        (f_X7_owed (wrA a 9 y18_4 1) y18_4).bind fun r20 =>
        if r20 ≤ nI lf then
          (f_X7_owed (wrA a 9 y18_4 1) y18_4).bind fun r23 =>
          f_X7_mostReleases_L41 (fun y M => some (y, M)) m' (nI r + 1) (nI lf - r23) (nI r + 1) (wrA a 9 y18_4 1)
        else
          some (nI r, (wrA a 9 y18_4 1))
        else none)
    have hmem : sl r ∈ ((List.range c).filter (fun p => decide (a.2 9 p = nI 0))).map (owe S t) := a4.mem_iff.mpr List.mem_cons_self
    obtain ⟨p1, hp1, ep1⟩ := List.mem_map.mp hmem
    obtain ⟨hp1c, hp1m⟩ := List.mem_filter.mp hp1
    have hp1c := List.mem_range.mp hp1c
    have hp1m : a.2 9 p1 = nI 0 := by simpa using hp1m
    rcases z2 with ⟨-, z3⟩ | ⟨p, hp, rfl, zm, z3⟩
    · have := (z3 p1 hp1c).symm.trans hp1m
      exact absurd this (by decide)
    · have hle1 : owe S t p ≤ sl r := by
        have := z3 p1 hp1c hp1m
        omega
      have hge1 : sl r ≤ owe S t p := by
        have hm : owe S t p ∈ ((List.range c).filter (fun p => decide (a.2 9 p = nI 0))).map (owe S t) := List.mem_map.mpr ⟨p, List.mem_filter.mpr ⟨List.mem_range.mpr hp, by simpa using zm⟩, rfl⟩
        rcases List.mem_cons.mp (a4.mem_iff.mp hm) with h | h
        · omega
        · obtain ⟨i, hi, ei⟩ := List.mem_iff_getElem.mp h
          simp at hi ei
          rw [← ei]
          exact hs r (r + 1 + i) (by omega) (by omega)
      have hd : owe S t p = sl r := by omega
      obtain ⟨o1, -⟩ := ho (wrA a 9 (nI p) 1) (fun j y hj => by rw [wr_same _ _ _ _ _ _ hj, a2 j y hj]) p hp
      rw [hd] at o1
      have hM : f_X7_mostReleases_L41 (fun y M => some (y, M)) (m' + 1) (nI r) (nI lf) (nI r) a = if nI (sl r) ≤ nI lf then f_X7_mostReleases_L41 (fun y M => some (y, M)) m' (nI (r + 1)) (nI lf - nI (sl r)) (nI (r + 1)) (wrA a 9 (nI p) 1) else some (nI r, wrA a 9 (nI p) 1) := by
        rw [f_X7_mostReleases_L41, if_pos i1, c1, mc, if_neg hle, z1, if_pos (ib_nI (by omega) (by omega)), o1, ob, ob, li_1, nI_add]
      by_cases g : sl r ≤ lf
      · have g1 : nI lf - nI (sl r) = nI (lf - sl r) := pk_sub g
        have hP : List.Perm (((List.range c).filter (fun p' => decide ((wrA a 9 (nI p) 1).2 9 p' = nI 0))).map (owe S t)) (((List.range c).map sl).drop (r + 1)) := by
          have f1 := filt_perm (owe S t) (fun p => decide (a.2 9 p = nI 0)) (fun p' => decide ((wrA a 9 (nI p) 1).2 9 p' = nI 0)) p (by simpa using zm) (by
            have : ¬ (1 : Int32) = nI 0 := by decide
            simp only [wr_at a 9 (show p < 2 ^ 31 by omega), and_self, if_true, this, decide_false]) (fun p' hne => by
            simp only [wr_at a 9 (show p < 2 ^ 31 by omega), hne, and_false, if_false]) c hp
          rw [hd] at f1
          exact (f1.symm.trans a4).cons_inv
        obtain ⟨z', a', k1, k2, k3, k4⟩ := ih (r + 1) n' m' (lf - sl r) (wrA a 9 (nI p) 1) (by omega) (by omega) (by omega) (by omega) a1 (fun j y hj => by rw [wr_same _ _ _ _ _ _ hj, a2 j y hj]) (fun p' hp' => by
          rw [wr_at _ _ (by omega)]
          by_cases e : p' = p
          · rw [if_pos ⟨rfl, e⟩]
            exact Or.inr rfl
          · rw [if_neg (fun h => e h.2)]
            exact a3 p' hp') hP
        refine ⟨z', a', ?_, ?_, k3, k4⟩
        · rw [hC, g1, if_pos (nI_pos' (by omega)), k1]
        · rw [hM, g1, if_pos (nI_le g (by omega)), k2]
      · refine ⟨nI r, wrA a 9 (nI p) 1, ?_, ?_, a1, fun j y hj => by rw [wr_same _ _ _ _ _ _ hj, a2 j y hj]⟩
        · have : ¬ 0 ≤ nI lf - nI (sl r) := by
            have := pk_sneg (a := lf) (b := sl r) (by omega) (by omega)
            rw [Int32.lt_iff_toInt_lt] at this
            rw [Int32.le_iff_toInt_le]
            omega
          rw [hC, if_neg this]
        · rw [hM, if_neg (nI_ge (by omega) (by omega))]
theorem q_most (s : St N S (M.2 0)) (B : Mem) : ∃ r B', f_X4_countReleases S B = some (r, B') ∧ Val M r (f_X7_mostReleases M) := by
  obtain ⟨c, t, q, R, I, D⟩ := s
  have hc := R.c
  obtain ⟨n3, n4, n5, n6⟩ := R.nums
  obtain ⟨b, -, hb, eb⟩ := I.2.2.2
  have n4' : M.2 0 4 = nI b := n4.trans eb
  obtain ⟨B1, sl, s1, s2, s3, s4⟩ := c_sort R.c1 hc I.2.1 I.1 B
  have H := lpI (fun n i a => f_X7_mostReleases_L16 (nI 0) (nI b) (fun M_5 => f_X7_mostReleases_L41 (fun y25_1 M_25 => some (y25_1, M_25)) 40 (nI 0) (nI b) (nI 0) M_5) n i a) (fun M_5 => f_X7_mostReleases_L41 (fun y25_1 M_25 => some (y25_1, M_25)) 40 (nI 0) (nI b) (nI 0) M_5) (fun i a => a.1 = (wrI M 0 (nI 0)).1 ∧ (∀ j y, j ≠ 9 → a.2 j y = M.2 j y) ∧ ∀ p, p < i → a.2 9 p = nI 0) c ?_ ?_ c 40 0 (wrI M 0 (nI 0)) (by omega) (by omega) ⟨rfl, fun _ _ _ => rfl, fun p hp => absurd hp (by omega)⟩
  · obtain ⟨M1, ⟨a1, a2, a3⟩, a4⟩ := H
    have R1 : Rel S ((wrI M 0 (nI 0)).2 0) c t q := R
    have hf : (List.range c).filter (fun p => decide (M1.2 9 p = nI 0)) = List.range c := List.filter_eq_self.mpr (fun p hp => by
      have := a3 p (List.mem_range.mp hp)
      simpa using this)
    obtain ⟨z, a', k1, k2, k3, k4⟩ := most_loop (M := wrI M 0 (nI 0)) R1 I.2.1 I.1 s2 s3 c 0 40 40 b M1 (by omega) (by omega) (by omega) hb a1 a2 (fun p hp => Or.inl (a3 p hp)) (by rw [hf, List.drop_zero]; exact s4.symm)
    refine ⟨z, B1, ?_, a', ?_, by rw [k3, wrI_1, if_pos rfl], fun k hk => by rw [k3, wrI_1, if_neg hk], fun y _ => k4 0 y (by omega), fun j y h0 _ _ h9 => k4 j y h9⟩
    · rw [f_X4_countReleases, s1, ob, eb]
      exact k1
    · have i4 : ib 4 148 = true := by decide +kernel
      have c4 : Int32.toNatClampNeg 4 = 4 := by decide +kernel
      rw [f_X7_mostReleases, if_pos i4, c4, n4']
      exact a4.trans k2
  · intro n a ⟨a1, a2, a3⟩
    have mc : a.2 0 1 = nI c := by rw [a2 0 1 (by omega), R.c2]
    simp (disch := omega) only [f_X7_mostReleases_L16, mc, li_0, li_1, li_2, li_3, li_4, li_5, li_6, li_7, li_8, li_9, li_10, li_11, li_12, li_16, li_20, li_23, li_24, li_30, li_32, li_35, li_37, li_40, li_42, li_46, li_48, li_53, li_57, li_58, li_59, li_60, li_63, li_64, li_65, li_97, li_99, li_100, li_101, li_120, li_126, li_132, li_148, li_300, li_999, li_1036, li_1184, li_9999, nn1, nI_leI, nI_ltI, nI_eq, nI_add, pk_mul, pk_sub, nI_clamp, ib_nI, if_pos, if_neg, if_true, if_false, eq_self, ob]
  · intro n i a hi ⟨a1, a2, a3⟩
    have mc : a.2 0 1 = nI c := by rw [a2 0 1 (by omega), R.c2]
    refine ⟨wrA a 9 (nI i) (nI 0), ⟨a1, fun j y hj => by rw [wr_same _ _ _ _ _ _ hj, a2 j y hj], fun p hp => ?_⟩, by simp (disch := omega) only [f_X7_mostReleases_L16, mc, li_0, li_1, li_2, li_3, li_4, li_5, li_6, li_7, li_8, li_9, li_10, li_11, li_12, li_16, li_20, li_23, li_24, li_30, li_32, li_35, li_37, li_40, li_42, li_46, li_48, li_53, li_57, li_58, li_59, li_60, li_63, li_64, li_65, li_97, li_99, li_100, li_101, li_120, li_126, li_132, li_148, li_300, li_999, li_1036, li_1184, li_9999, nn1, nI_leI, nI_ltI, nI_eq, nI_add, pk_mul, pk_sub, nI_clamp, ib_nI, if_pos, if_neg, if_true, if_false, eq_self, ob]⟩
    rw [wr_at _ _ (by omega)]
    by_cases e : p = i
    · rw [if_pos ⟨rfl, e⟩]
    · rw [if_neg (fun h => e h.2), a3 p (by omega)]
end MOST2
