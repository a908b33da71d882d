/-! a day -/
theorem wr_same (M : Mem) (k : Nat) (i v : Int32) (j x : Nat) (h : j ≠ k) : (wrA M k i v).2 j x = M.2 j x := by
  rw [wrA_2, if_neg h]
/-- a row of flags by bay, filled from the lots: L2, L23 of oneDay -/
theorem m_was {S M : Mem} {c t q : Nat} (R : Rel S (M.2 0) c t q) (L : LotsOK S c) (k : Mem → Option (Int32 × Mem)) :
    ∃ M', f_X7_oneDay_L2 (fun M_3 => f_X7_oneDay_L23 k 40 0 M_3) 40 0 M = k M' ∧ M'.1 = M.1 ∧ (∀ j y, j ≠ 8 → M'.2 j y = M.2 j y) ∧ ∀ b, b < 24 → (Bay S (fun p => S.2 6 p = 1) c b → M'.2 8 b = 1) ∧ (¬ Bay S (fun p => S.2 6 p = 1) c b → M'.2 8 b = 0) := by
  have hc := R.c
  rw [li_0]
  have H := lpI (fun n i a => f_X7_oneDay_L2 (fun M_3 => f_X7_oneDay_L23 k 40 (nI 0) M_3) n i a) (fun M_3 => f_X7_oneDay_L23 k 40 (nI 0) M_3) (fun i a => a.1 = M.1 ∧ (∀ j y, j ≠ 8 → a.2 j y = M.2 j y) ∧ ∀ b, b < i → a.2 8 b = nI 0) 24 ?_ ?_ 24 40 0 M (by omega) (by omega) ⟨rfl, fun _ _ _ => rfl, fun b hb => absurd hb (by omega)⟩
  · obtain ⟨M1, ⟨h1, h2, h3⟩, h4⟩ := H
    have H2 := lpI (fun n i a => f_X7_oneDay_L23 k n i a) k (fun i a => a.1 = M.1 ∧ (∀ j y, j ≠ 8 → a.2 j y = M.2 j y) ∧ ∀ b, b < 24 → (Bay S (fun p => S.2 6 p = 1) i b → a.2 8 b = 1) ∧ (¬ Bay S (fun p => S.2 6 p = 1) i b → a.2 8 b = 0)) c ?_ ?_ c 40 0 M1 (by omega) (by omega) ⟨h1, h2, fun b hb => ⟨fun ⟨p, hp, _⟩ => absurd hp (by omega), fun _ => h3 b hb⟩⟩
    · obtain ⟨M2, ⟨g1, g2, g3⟩, g4⟩ := H2
      exact ⟨M2, h4.trans g4, g1, g2, g3⟩
    · intro n a ⟨a1, a2, a3⟩
      have hca : a.2 0 1 = nI c := by rw [a2 0 1 (by omega), R.c2]
      simp (disch := omega) only [f_X7_oneDay_L23, hca, li_0, li_1, li_2, li_3, li_4, li_5, li_6, li_7, li_8, li_9, li_10, li_11, li_12, li_16, li_20, li_23, li_24, li_30, li_32, li_35, li_37, li_40, li_42, li_46, li_48, li_53, li_57, li_58, li_59, li_60, li_63, li_64, li_65, li_97, li_99, li_100, li_101, li_120, li_126, li_132, li_148, li_300, li_999, li_1036, li_1184, li_9999, nn1, nI_leI, nI_ltI, nI_eq, nI_add, pk_mul, pk_sub, nI_clamp, ib_nI, if_pos, if_neg, if_true, if_false, eq_self, ob]
    · intro n i a hi ⟨a1, a2, a3⟩
      have hca : a.2 0 1 = nI c := by rw [a2 0 1 (by omega), R.c2]
      obtain ⟨d, -, hd, ed⟩ := (L.1 i hi).2.2.2.1
      have o4 : f_X7_of a (nI i) (nI 4) = some (nI d) := by rw [m_of a (by omega), a2 0 _ (by omega), R.at hi (by omega), ed]
      have o6 : f_X7_of a (nI i) (nI 6) = some (S.2 6 i) := by rw [m_of a (by omega), a2 0 _ (by omega), R.at hi (by omega)]
      refine ⟨wrA a 8 (nI d) (S.2 6 i), ⟨a1, fun j y hj => by rw [wr_same _ _ _ _ _ _ hj, a2 j y hj], fun b hb => ?_⟩, ?_⟩
      · rw [wr_at _ _ (by omega)]
        have hno : ∀ b', b' = d → ¬ Bay S (fun p => S.2 6 p = 1) i b' := by
          intro b' hb' ⟨p, hp, h1, _⟩
          rw [hb'] at h1
          have := L.2 p i (by omega) hi (h1.trans ed.symm)
          omega
        by_cases e : b = d
        · rw [if_pos ⟨rfl, e⟩, Bay.s]
          refine ⟨fun h => ?_, fun h => ?_⟩
          · rcases h with h | h
            · exact absurd h (hno b e)
            · exact h.2
          · rcases (L.1 i hi).2.2.2.2.2.1 with g | g
            · exact g
            · exact absurd (Or.inr ⟨by rw [ed, e], g⟩) h
        · rw [if_neg (fun h => e h.2), Bay.s]
          have : ¬ (S.2 4 i = nI b ∧ S.2 6 i = 1) := fun h => e (by
            have := h.1.symm.trans ed
            rw [nI_eq (by omega) (by omega)] at this
            exact this)
          refine ⟨fun h => ?_, fun h => (a3 b hb).2 (fun g => h (Or.inl g))⟩
          rcases h with h | h
          · exact (a3 b hb).1 h
          · exact absurd h this
      · simp (disch := omega) only [f_X7_oneDay_L23, hca, o4, o6, li_0, li_1, li_2, li_3, li_4, li_5, li_6, li_7, li_8, li_9, li_10, li_11, li_12, li_16, li_20, li_23, li_24, li_30, li_32, li_35, li_37, li_40, li_42, li_46, li_48, li_53, li_57, li_58, li_59, li_60, li_63, li_64, li_65, li_97, li_99, li_100, li_101, li_120, li_126, li_132, li_148, li_300, li_999, li_1036, li_1184, li_9999, nn1, nI_leI, nI_ltI, nI_eq, nI_add, pk_mul, pk_sub, nI_clamp, ib_nI, if_pos, if_neg, if_true, if_false, eq_self, ob]
  · intro n a _
    simp (disch := omega) only [f_X7_oneDay_L2, li_0, li_1, li_2, li_3, li_4, li_5, li_6, li_7, li_8, li_9, li_10, li_11, li_12, li_16, li_20, li_23, li_24, li_30, li_32, li_35, li_37, li_40, li_42, li_46, li_48, li_53, li_57, li_58, li_59, li_60, li_63, li_64, li_65, li_97, li_99, li_100, li_101, li_120, li_126, li_132, li_148, li_300, li_999, li_1036, li_1184, li_9999, nn1, nI_leI, nI_ltI, nI_eq, nI_add, pk_mul, pk_sub, nI_clamp, ib_nI, if_pos, if_neg, if_true, if_false, eq_self, ob]
  · intro n i a hi ⟨a1, a2, a3⟩
    refine ⟨wrA a 8 (nI i) (nI 0), ⟨a1, fun j y hj => by rw [wr_same _ _ _ _ _ _ hj, a2 j y hj], fun b hb => ?_⟩, ?_⟩
    · rw [wr_at _ _ (by omega)]
      by_cases e : b = i
      · rw [if_pos ⟨rfl, e⟩]
      · rw [if_neg (fun h => e h.2), a3 b (by omega)]
    · simp (disch := omega) only [f_X7_oneDay_L2, li_0, li_1, li_2, li_3, li_4, li_5, li_6, li_7, li_8, li_9, li_10, li_11, li_12, li_16, li_20, li_23, li_24, li_30, li_32, li_35, li_37, li_40, li_42, li_46, li_48, li_53, li_57, li_58, li_59, li_60, li_63, li_64, li_65, li_97, li_99, li_100, li_101, li_120, li_126, li_132, li_148, li_300, li_999, li_1036, li_1184, li_9999, nn1, nI_leI, nI_ltI, nI_eq, nI_add, pk_mul, pk_sub, nI_clamp, ib_nI, if_pos, if_neg, if_true, if_false, eq_self, ob]
/-- damp spreads: the lots of S get wet where the risk is; D: what was damp -/
def Risk (D : Nat → Prop) (b : Nat) : Prop := (0 < b ∧ D (b - 1)) ∨ (b + 1 < 24 ∧ D (b + 1))
def Spr (S S' : Mem) (D : Nat → Prop) (n : Nat) : Prop :=
  S'.1 = S.1 ∧ (∀ j y, (j ≠ 6 ∨ n ≤ y) → S'.2 j y = S.2 j y) ∧ ∀ p, p < n → ∀ b, S.2 4 p = nI b → b < 24 → (S.2 5 p = 0 ∧ Risk D b → S'.2 6 p = 1) ∧ (¬ (S.2 5 p = 0 ∧ Risk D b) → S'.2 6 p = S.2 6 p)
theorem Spr.lots {S S' : Mem} {D : Nat → Prop} {n c : Nat} (h : Spr S S' D n) (L : LotsOK S c) : LotsOK S' c := by
  obtain ⟨h1, h2, h3⟩ := h
  refine ⟨fun p hp => ?_, fun x y hx hy e => ?_⟩
  · by_cases g : n ≤ p
    · exact (L.1 p hp).same (fun j _ => h2 j p (Or.inr g))
    · obtain ⟨l1, l2, l3, l4, l5, l6, l7⟩ := L.1 p hp
      obtain ⟨b, _, hb, eb⟩ := l4
      obtain ⟨k1, k2⟩ := h3 p (by omega) b eb (by omega)
      unfold lotOK
      rw [h2 1 p (by omega), h2 2 p (by omega), h2 3 p (by omega), h2 4 p (by omega), h2 5 p (by omega)]
      by_cases r : S.2 5 p = 0 ∧ Risk D b
      · rw [k1 r]
        exact ⟨l1, l2, l3, ⟨b, by omega, hb, eb⟩, l5, Or.inr rfl, fun h => absurd (r.1.symm.trans h) (by decide)⟩
      · rw [k2 r]
        exact ⟨l1, l2, l3, ⟨b, by omega, hb, eb⟩, l5, l6, l7⟩
  · rw [h2 4 x (by omega), h2 4 y (by omega)] at e
    exact L.2 x y hx hy e
theorem risk_c {D : Nat → Prop} {x : Int32} {b : Nat} (hb : b < 24) (hD : ∀ b, b < 24 → (bt x b = true ↔ D b)) : ∃ r3 r9 : Int32, f_X6_hasBay x (nI b - 1) = some r3 ∧ f_X6_hasBay x (nI b + 1) = some r9 ∧ (Risk D b ↔ (r3 ≠ 0 ∨ r9 ≠ 0)) := by
  have h1 : ∃ r3 : Int32, f_X6_hasBay x (nI b - 1) = some r3 ∧ (r3 ≠ 0 ↔ (0 < b ∧ D (b - 1))) := by
    by_cases e : b = 0
    · refine ⟨0, ?_, by simp [e]⟩
      rw [e]
      exact hb_m1 x
    · refine ⟨_, by rw [li_1, pk_sub (by omega)]; exact hb_ok x (by omega), ?_⟩
      rw [← hD (b - 1) (by omega)]
      by_cases g : bt x (b - 1) = true
      · rw [if_pos g]
        exact ⟨fun _ => ⟨by omega, g⟩, fun _ => by decide⟩
      · rw [if_neg g]
        exact ⟨fun h => absurd rfl h, fun h => absurd h.2 g⟩
  have h2 : ∃ r9 : Int32, f_X6_hasBay x (nI b + 1) = some r9 ∧ (r9 ≠ 0 ↔ (b + 1 < 24 ∧ D (b + 1))) := by
    by_cases e : b = 23
    · refine ⟨0, ?_, by simp [e]⟩
      rw [e]
      exact hb_24 x
    · refine ⟨_, by rw [li_1, nI_add]; exact hb_ok x (by omega), ?_⟩
      rw [← hD (b + 1) (by omega)]
      by_cases g : bt x (b + 1) = true
      · rw [if_pos g]
        exact ⟨fun _ => ⟨by omega, g⟩, fun _ => by decide⟩
      · rw [if_neg g]
        exact ⟨fun h => absurd rfl h, fun h => absurd h.2 g⟩
  obtain ⟨r3, a1, a2⟩ := h1
  obtain ⟨r9, b1, b2⟩ := h2
  exact ⟨r3, r9, a1, b1, by rw [a2, b2]; rfl⟩
theorem Spr.step {S a : Mem} {D : Nat → Prop} {i b : Nat} (h : Spr S a D i) (eb : S.2 4 i = nI b) (hb : b < 24) (hi : i < 16) : (S.2 5 i = 0 ∧ Risk D b → Spr S (wrA a 6 (nI i) 1) D (i + 1)) ∧ (¬ (S.2 5 i = 0 ∧ Risk D b) → Spr S a D (i + 1)) := by
  obtain ⟨h1, h2, h3⟩ := h
  refine ⟨fun r => ⟨h1, fun j y hj => ?_, fun p hp b' eb' hb' => ?_⟩, fun r => ⟨h1, fun j y hj => h2 j y (by omega), fun p hp b' eb' hb' => ?_⟩⟩
  · rw [wr_at _ _ (by omega), if_neg (by omega), h2 j y (by omega)]
  · rw [wr_at _ _ (by omega)]
    by_cases e : p = i
    · subst e
      have : b' = b := by
        have := eb'.symm.trans eb
        rw [nI_eq (by omega) (by omega)] at this
        exact this
      subst this
      rw [if_pos ⟨rfl, rfl⟩]
      exact ⟨fun _ => rfl, fun g => absurd r g⟩
    · rw [if_neg (fun g => e g.2)]
      exact h3 p (by omega) b' eb' hb'
  · by_cases e : p = i
    · subst e
      have : b' = b := by
        have := eb'.symm.trans eb
        rw [nI_eq (by omega) (by omega)] at this
        exact this
      subst this
      exact ⟨fun g => absurd g r, fun _ => h2 6 p (by omega)⟩
    · exact h3 p (by omega) b' eb' hb'
theorem c_spread {S : Mem} {D : Nat → Prop} {c : Nat} {x : Int32} (hc : S.1 0 = nI c) (h : c ≤ 16) (L : LotsOK S c) (hD : ∀ b, b < 24 → (bt x b = true ↔ D b)) : ∃ S', f_X3_spreadFrom S x = some S' ∧ Spr S S' D c := by
  unfold f_X3_spreadFrom
  rw [li_0]
  have H := lpI (fun n i a => f_X3_spreadFrom_L2 x (fun S_15 => some S_15) n i a) (fun S_15 => some S_15) (fun i a => Spr S a D i) c ?_ ?_ c 40 0 S (by omega) (by omega) ⟨rfl, fun _ _ _ => rfl, fun p hp => absurd hp (by omega)⟩
  · obtain ⟨a, h1, h2⟩ := H
    exact ⟨a, h2, h1⟩
  · intro n a ha
    have hca : a.1 0 = nI c := by rw [ha.1, hc]
    simp (disch := omega) only [f_X3_spreadFrom_L2, hca, nI_leI, nI_ltI, nI_eq, nI_add, pk_mul, pk_sub, nI_clamp, ib_nI, if_pos, if_neg, if_true, if_false, eq_self, ob]
  · intro n i a hi ha
    have hca : a.1 0 = nI c := by rw [ha.1, hc]
    obtain ⟨b, _, hb, eb⟩ := (L.1 i hi).2.2.2.1
    have e4 : a.2 4 i = nI b := by rw [ha.2.1 4 i (by omega), eb]
    have e5 : a.2 5 i = S.2 5 i := ha.2.1 5 i (by omega)
    obtain ⟨s1, s2⟩ := ha.step eb (by omega) (by omega)
    obtain ⟨r3, r9, f3, f9, hr⟩ := risk_c (b := b) (by omega) hD
    have w1 : vp_nar .boolean 1 = 1 := vn1
    by_cases z3 : r3 = 0
    · by_cases z9 : r9 = 0
      · refine ⟨a, s2 (fun g => ?_), ?_⟩
        · rw [hr] at g
          rcases g.2 with g | g
          · exact g z3
          · exact g z9
        · simp (disch := omega) only [f_X3_spreadFrom_L2, hca, e4, f3, f9, z3, z9, nI_leI, if_neg, ib_nI, nI_clamp, if_true, ob]
          rw [li_1, nI_add]
      · rcases (L.1 i hi).2.2.2.2.1 with g | g
        · refine ⟨_, s1 ⟨g, hr.mpr (Or.inr z9)⟩, ?_⟩
          simp (disch := omega) only [f_X3_spreadFrom_L2, hca, e4, f3, f9, z3, z9, e5, g, w1, nI_leI, if_neg, ib_nI, nI_clamp, if_true, if_false, ob]
          rw [li_1, nI_add]
        · refine ⟨a, s2 (fun k => absurd (k.1.symm.trans g) (by decide)), ?_⟩
          simp (disch := omega) only [f_X3_spreadFrom_L2, hca, e4, f3, f9, z3, z9, e5, g, n11, nI_leI, if_neg, ib_nI, nI_clamp, if_true, if_false, ob]
          rw [li_1, nI_add]
    · rcases (L.1 i hi).2.2.2.2.1 with g | g
      · refine ⟨_, s1 ⟨g, hr.mpr (Or.inl z3)⟩, ?_⟩
        simp (disch := omega) only [f_X3_spreadFrom_L2, hca, e4, f3, z3, e5, g, w1, nI_leI, if_neg, ib_nI, nI_clamp, if_true, if_false, ob]
        rw [li_1, nI_add]
      · refine ⟨a, s2 (fun k => absurd (k.1.symm.trans g) (by decide)), ?_⟩
        simp (disch := omega) only [f_X3_spreadFrom_L2, hca, e4, f3, z3, e5, g, n11, nI_leI, if_neg, ib_nI, nI_clamp, if_true, if_false, ob]
        rw [li_1, nI_add]
