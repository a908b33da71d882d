/-! .. the model's answer; the stretches -/
section REACH2
variable {S M : Mem} {N : Nat}
theorem m_reach {c t q : Nat} (R : Rel S (M.2 0) c t q) (L : LotsOK S c) : Val M (nI (cnt (Rk (opn S c) (dmp S c) 24) 24)) (f_X7_dampReach M) := by
  have hc := R.c
  have hdo := dmp_opn L
  let kEnd := fun (M_33 : Mem) => f_X7_dampReach_L157 M_33 (fun y36_1 => some (y36_1, M_33)) 40 0 0
  let kR := fun (M_11 : Mem) => f_X7_dampReach_L64 kEnd 40 0 M_11
  have H1 := lpI (fun n i a => f_X7_dampReach_L7 (fun M_3 => f_X7_dampReach_L28 kR 40 0 M_3) n i a) (fun M_3 => f_X7_dampReach_L28 kR 40 0 M_3) (fun i a => a.1 = (wrI M 0 (nI 0)).1 ∧ (∀ j y, j ≠ 9 → a.2 j y = M.2 j y) ∧ ∀ b, b < i → a.2 9 b = nI 0) 24 ?_ ?_ 24 40 0 (wrI M 0 (nI 0)) (by omega) (by omega) ⟨rfl, fun _ _ _ => rfl, fun b hb => absurd hb (by omega)⟩
  · obtain ⟨M1, ⟨h1, h2, h3⟩, h4⟩ := H1
    have H2 := lpI (fun n i a => f_X7_dampReach_L28 kR n i a) kR (fun i a => a.1 = (wrI M 0 (nI 0)).1 ∧ (∀ j y, j ≠ 9 → a.2 j y = M.2 j y) ∧ ∀ b, b < 24 → (Bay S (fun p => S.2 6 p = 1) i b → a.2 9 b = nI 1) ∧ (¬ Bay S (fun p => S.2 6 p = 1) i b → a.2 9 b = nI 0)) c ?_ ?_ c 40 0 M1 (by omega) (by omega) ⟨h1, h2, fun b hb => ⟨fun ⟨p, hp, _⟩ => absurd hp (by omega), fun _ => h3 b hb⟩⟩
    · obtain ⟨M2, ⟨g1, g2, g3⟩, g4⟩ := H2
      have H3 := lpI (fun n i a => f_X7_dampReach_L64 kEnd n i a) kEnd (fun r a => a.1 = (wrI M 0 (nI 0)).1 ∧ (∀ j y, j ≠ 9 → a.2 j y = M.2 j y) ∧ ∀ b, b < 24 → (a.2 9 b = nI 0 ∨ a.2 9 b = nI 1) ∧ (a.2 9 b = nI 1 → Rk (opn S c) (dmp S c) 24 b) ∧ (Rk (opn S c) (dmp S c) r b → a.2 9 b = nI 1)) 24 ?_ ?_ 24 40 0 M2 (by omega) (by omega) ⟨g1, g2, fun b hb => ?_⟩
      · obtain ⟨M3, ⟨k1, k2, k3⟩, k4⟩ := H3
        have hsum : f_X7_dampReach_L157 M3 (fun y36_1 => some (y36_1, M3)) 40 (nI 0) (nI 0) = some (sI (fun b => M3.2 9 b) 24, M3) := by
          refine lpA (fun n i z => f_X7_dampReach_L157 M3 (fun y36_1 => some (y36_1, M3)) n z i) (fun y36_1 => some (y36_1, M3)) (fun b => M3.2 9 b) 24 ?_ ?_ (by omega)
          · intro n z
            simp (disch := omega) only [f_X7_dampReach_L157, li_0, li_1, li_2, li_3, li_4, li_5, li_6, li_7, li_8, li_9, li_10, li_11, li_12, li_16, li_20, li_23, li_24, li_30, li_32, li_35, li_37, li_40, li_42, li_46, li_48, li_53, li_57, li_58, li_59, li_60, li_63, li_64, li_65, li_97, li_99, li_100, li_101, li_120, li_126, li_132, li_148, li_300, li_999, li_1036, li_1184, li_9999, nn1, nI_leI, nI_ltI, nI_eq, nI_add, pk_mul, pk_sub, nI_clamp, ib_nI, if_pos, if_neg, if_true, if_false, eq_self, ob]
          · intro n i z hi
            simp (disch := omega) only [f_X7_dampReach_L157, li_0, li_1, li_2, li_3, li_4, li_5, li_6, li_7, li_8, li_9, li_10, li_11, li_12, li_16, li_20, li_23, li_24, li_30, li_32, li_35, li_37, li_40, li_42, li_46, li_48, li_53, li_57, li_58, li_59, li_60, li_63, li_64, li_65, li_97, li_99, li_100, li_101, li_120, li_126, li_132, li_148, li_300, li_999, li_1036, li_1184, li_9999, nn1, nI_leI, nI_ltI, nI_eq, nI_add, pk_mul, pk_sub, nI_clamp, ib_nI, if_pos, if_neg, if_true, if_false, eq_self, ob]
        have hcnt : sI (fun b => M3.2 9 b) 24 = nI (cnt (Rk (opn S c) (dmp S c) 24) 24) := sI_cnt 24 (fun b hb => ⟨(k3 b hb).2.2, fun hn => by
          rcases (k3 b hb).1 with h | h
          · exact h
          · exact absurd ((k3 b hb).2.1 h) hn⟩)
        refine ⟨M3, ?_, by rw [k1, wrI_1, if_pos rfl], fun k hk => by rw [k1, wrI_1, if_neg hk], fun y _ => k2 0 y (by omega), fun j y _ _ _ h9 => k2 j y h9⟩
        rw [← hcnt, ← hsum]
        exact h4.trans (g4.trans k4)
      · intro n a _
        simp (disch := omega) only [f_X7_dampReach_L64, li_0, li_1, li_2, li_3, li_4, li_5, li_6, li_7, li_8, li_9, li_10, li_11, li_12, li_16, li_20, li_23, li_24, li_30, li_32, li_35, li_37, li_40, li_42, li_46, li_48, li_53, li_57, li_58, li_59, li_60, li_63, li_64, li_65, li_97, li_99, li_100, li_101, li_120, li_126, li_132, li_148, li_300, li_999, li_1036, li_1184, li_9999, nn1, nI_leI, nI_ltI, nI_eq, nI_add, pk_mul, pk_sub, nI_clamp, ib_nI, if_pos, if_neg, if_true, if_false, eq_self, ob]
      · intro n r a hr ⟨a1, a2, a3⟩
        have Ra : Rel S (a.2 0) c t q := by
          rw [show a.2 0 = M.2 0 from funext fun y => a2 0 y (by omega)]
          exact R
        obtain ⟨M', e1, e2, e3, e4⟩ := m_round Ra L (nI r) (fun M_32 => f_X7_dampReach_L64 kEnd n (nI r + 1) M_32) r rfl a3
        refine ⟨M', ⟨by rw [e2, a1], fun j y hj => by rw [e3 j y hj, a2 j y hj], e4⟩, ?_⟩
        rw [f_X7_dampReach_L64, li_24, if_neg (nI_ge hr (by omega)), e1, li_1, nI_add]
      · by_cases hb' : Bay S (fun p => S.2 6 p = 1) c b
        · exact ⟨Or.inr ((g3 b hb).1 hb'), fun _ => (Rk.zero hdo hb hb').mono (by omega), fun _ => (g3 b hb).1 hb'⟩
        · refine ⟨Or.inl ((g3 b hb).2 hb'), fun h => absurd ((h.symm).trans ((g3 b hb).2 hb')) (by decide), fun ⟨d, d1, d2, d3, d4, d5⟩ => ?_⟩
          have : d = b := by omega
          rw [this] at d2
          exact absurd d2 hb'
    · intro n a ⟨a1, a2, a3⟩
      have mc : a.2 0 1 = nI c := by rw [a2 0 1 (by omega), R.c2]
      simp (disch := omega) only [f_X7_dampReach_L28, mc, li_0, li_1, li_2, li_3, li_4, li_5, li_6, li_7, li_8, li_9, li_10, li_11, li_12, li_16, li_20, li_23, li_24, li_30, li_32, li_35, li_37, li_40, li_42, li_46, li_48, li_53, li_57, li_58, li_59, li_60, li_63, li_64, li_65, li_97, li_99, li_100, li_101, li_120, li_126, li_132, li_148, li_300, li_999, li_1036, li_1184, li_9999, nn1, nI_leI, nI_ltI, nI_eq, nI_add, pk_mul, pk_sub, nI_clamp, ib_nI, if_pos, if_neg, if_true, if_false, eq_self, ob]
    · intro n i a hi ⟨a1, a2, a3⟩
      have mc : a.2 0 1 = nI c := by rw [a2 0 1 (by omega), R.c2]
      obtain ⟨d, -, hd, ed⟩ := (L.1 i hi).2.2.2.1
      have o4 : f_X7_of a (nI i) (nI 4) = some (nI d) := by rw [m_of a (by omega), a2 0 _ (by omega), R.at hi (by omega), ed]
      have o6 : f_X7_of a (nI i) (nI 6) = some (S.2 6 i) := by rw [m_of a (by omega), a2 0 _ (by omega), R.at hi (by omega)]
      refine ⟨wrA a 9 (nI d) (S.2 6 i), ⟨a1, fun j y hj => by rw [wr_same _ _ _ _ _ _ hj, a2 j y hj], fun b hb => ?_⟩, ?_⟩
      · rw [wr_at _ _ (by omega)]
        have hno : ∀ b', b' = d → ¬ Bay S (fun p => S.2 6 p = 1) i b' := by
          intro b' hb' ⟨p, hp, h1, _⟩
          rw [hb'] at h1
          have := L.2 p i (by omega) hi (h1.trans ed.symm)
          omega
        by_cases e : b = d
        · rw [if_pos ⟨rfl, e⟩, Bay.s]
          refine ⟨fun h => ?_, fun h => ?_⟩
          · rcases h with h | h
            · exact absurd h (hno b e)
            · exact h.2
          · rcases (L.1 i hi).2.2.2.2.2.1 with g | g
            · exact g
            · exact absurd (Or.inr ⟨by rw [ed, e], g⟩) h
        · rw [if_neg (fun h => e h.2), Bay.s]
          have : ¬ (S.2 4 i = nI b ∧ S.2 6 i = 1) := fun h => e (by
            have := h.1.symm.trans ed
            rw [nI_eq (by omega) (by omega)] at this
            exact this)
          refine ⟨fun h => ?_, fun h => (a3 b hb).2 (fun g => h (Or.inl g))⟩
          rcases h with h | h
          · exact (a3 b hb).1 h
          · exact absurd h this
      · simp (disch := omega) only [f_X7_dampReach_L28, mc, o4, o6, li_0, li_1, li_2, li_3, li_4, li_5, li_6, li_7, li_8, li_9, li_10, li_11, li_12, li_16, li_20, li_23, li_24, li_30, li_32, li_35, li_37, li_40, li_42, li_46, li_48, li_53, li_57, li_58, li_59, li_60, li_63, li_64, li_65, li_97, li_99, li_100, li_101, li_120, li_126, li_132, li_148, li_300, li_999, li_1036, li_1184, li_9999, nn1, nI_leI, nI_ltI, nI_eq, nI_add, pk_mul, pk_sub, nI_clamp, ib_nI, if_pos, if_neg, if_true, if_false, eq_self, ob]
  · intro n a _
    simp (disch := omega) only [f_X7_dampReach_L7, li_0, li_1, li_2, li_3, li_4, li_5, li_6, li_7, li_8, li_9, li_10, li_11, li_12, li_16, li_20, li_23, li_24, li_30, li_32, li_35, li_37, li_40, li_42, li_46, li_48, li_53, li_57, li_58, li_59, li_60, li_63, li_64, li_65, li_97, li_99, li_100, li_101, li_120, li_126, li_132, li_148, li_300, li_999, li_1036, li_1184, li_9999, nn1, nI_leI, nI_ltI, nI_eq, nI_add, pk_mul, pk_sub, nI_clamp, ib_nI, if_pos, if_neg, if_true, if_false, eq_self, ob]
  · intro n i a hi ⟨a1, a2, a3⟩
    refine ⟨wrA a 9 (nI i) (nI 0), ⟨a1, fun j y hj => by rw [wr_same _ _ _ _ _ _ hj, a2 j y hj], fun b hb => ?_⟩, ?_⟩
    · rw [wr_at _ _ (by omega)]
      by_cases e : b = i
      · rw [if_pos ⟨rfl, e⟩]
      · rw [if_neg (fun h => e h.2), a3 b (by omega)]
    · simp (disch := omega) only [f_X7_dampReach_L7, li_0, li_1, li_2, li_3, li_4, li_5, li_6, li_7, li_8, li_9, li_10, li_11, li_12, li_16, li_20, li_23, li_24, li_30, li_32, li_35, li_37, li_40, li_42, li_46, li_48, li_53, li_57, li_58, li_59, li_60, li_63, li_64, li_65, li_97, li_99, li_100, li_101, li_120, li_126, li_132, li_148, li_300, li_999, li_1036, li_1184, li_9999, nn1, nI_leI, nI_ltI, nI_eq, nI_add, pk_mul, pk_sub, nI_clamp, ib_nI, if_pos, if_neg, if_true, if_false, eq_self, ob]
/-- a run of bays with lots that aren't sealed, from b - s to b -/
theorem run_cnt {O D : Nat → Prop} {b s : Nat} (hb : b ≤ 24) (hs : s ≤ b) (hO : ∀ x, b - s ≤ x → x < b → O x) (h1 : b = s ∨ ¬ O (b - s - 1)) (h2 : b = 24 ∨ ¬ O b) :
    ((∃ x, b - s ≤ x ∧ x < b ∧ D x) → cnt (Rk O D 24) b = cnt (Rk O D 24) (b - s) + s) ∧ ((¬ ∃ x, b - s ≤ x ∧ x < b ∧ D x) → cnt (Rk O D 24) b = cnt (Rk O D 24) (b - s)) := by
  have key : ∀ x, b - s ≤ x → x < b → (Rk O D 24 x ↔ ∃ y, b - s ≤ y ∧ y < b ∧ D y) := by
    intro x hx1 hx2
    refine ⟨fun ⟨d, d1, d2, d3, d4, d5⟩ => ?_, fun ⟨y, y1, y2, y3⟩ => ?_⟩
    · refine ⟨d, ?_, ?_, d2⟩
      · by_cases g : b - s ≤ d
        · exact g
        · rcases h1 with h1 | h1
          · omega
          · exact absurd (d5 (b - s - 1) (Or.inr (by omega))) h1
      · by_cases g : d < b
        · exact g
        · rcases h2 with h2 | h2
          · omega
          · exact absurd (d5 b (Or.inl (by omega))) h2
    · exact ⟨y, by omega, y3, by omega, by omega, fun z hz => hO z (by omega) (by omega)⟩
  have hp : ∀ k, k ≤ s → (∃ x, b - s ≤ x ∧ x < b ∧ D x) → cnt (Rk O D 24) (b - s + k) = cnt (Rk O D 24) (b - s) + k := by
    intro k
    induction k with
    | zero => intro _ _; rfl
    | succ k ih =>
      intro hk he
      have := ih (by omega) he
      rw [show b - s + (k + 1) = (b - s + k) + 1 by omega, cnt_t ((key _ (by omega) (by omega)).mpr he), this]
      omega
  have hn : ∀ k, k ≤ s → (¬ ∃ x, b - s ≤ x ∧ x < b ∧ D x) → cnt (Rk O D 24) (b - s + k) = cnt (Rk O D 24) (b - s) := by
    intro k
    induction k with
    | zero => intro _ _; rfl
    | succ k ih =>
      intro hk he
      have := ih (by omega) he
      rw [show b - s + (k + 1) = (b - s + k) + 1 by omega, cnt_f (fun h => he ((key _ (by omega) (by omega)).mp h)), this]
  refine ⟨fun h => ?_, fun h => ?_⟩
  · have := hp s (Nat.le_refl s) h
    rw [show b - s + s = b by omega] at this
    exact this
  · have := hn s (Nat.le_refl s) h
    rw [show b - s + s = b by omega] at this
    exact this
/-- the lot of a bay -/
theorem at_bay {c b : Nat} (hb : b < 24) (L : LotsOK S c) : (byc S c (nI b) = none ∧ ¬ opn S c b ∧ ¬ dmp S c b) ∨ ∃ p, p < c ∧ byc S c (nI b) = some p ∧ (opn S c b ↔ S.2 5 p = 0) ∧ (dmp S c b ↔ S.2 6 p = 1) := by
  rcases fnd_at (g := S.2 4) (x := nI b) (c := c) with ⟨g1, g2⟩ | ⟨p, g1, g2, g3, g4⟩
  · exact Or.inl ⟨g1, fun ⟨p, p1, p2, _⟩ => g2 p p1 p2, fun ⟨p, p1, p2, _⟩ => g2 p p1 p2⟩
  · refine Or.inr ⟨p, g2, g1, ⟨fun ⟨p', p1, p2, p3⟩ => ?_, fun h => ⟨p, g2, g3, h⟩⟩, ⟨fun ⟨p', p1, p2, p3⟩ => ?_, fun h => ⟨p, g2, g3, h⟩⟩⟩
    · have := L.2 p' p p1 g2 (p2.trans g3.symm)
      rw [← this]
      exact p3
    · have := L.2 p' p p1 g2 (p2.trans g3.symm)
      rw [← this]
      exact p3
theorem c_stretch {c : Nat} (cc : S.1 0 = nI c) (hc : c ≤ 16) (L : LotsOK S c) : f_X3_reachByStretches S = some (nI (cnt (Rk (opn S c) (dmp S c) 24) 24)) := by
  rw [f_X3_reachByStretches, li_0]
  have H := lpI (σ := Int32 × Int32 × Int32) (fun n i a => f_X3_reachByStretches_L9 S (fun y => some y) n a.1 a.2.1 a.2.2 i) (fun a => some a.1) (fun b a => (b ≤ 24 ∧ ∃ s, s ≤ b ∧ a.2.1 = nI s ∧ (∀ x, b - s ≤ x → x < b → opn S c x) ∧ (b = s ∨ ¬ opn S c (b - s - 1)) ∧ a.1 = nI (cnt (Rk (opn S c) (dmp S c) 24) (b - s)) ∧ ((a.2.2 = nI 1 ∧ ∃ x, b - s ≤ x ∧ x < b ∧ dmp S c x) ∨ (a.2.2 = nI 0 ∧ ¬ ∃ x, b - s ≤ x ∧ x < b ∧ dmp S c x))) ∨ (b = 25 ∧ a.1 = nI (cnt (Rk (opn S c) (dmp S c) 24) 24))) 25 ?_ ?_ 25 40 0 (nI 0, nI 0, nI 0) (by omega) (by omega) (Or.inl ⟨by omega, 0, by omega, rfl, fun x _ hx => absurd hx (by omega), Or.inl rfl, rfl, Or.inr ⟨rfl, fun ⟨x, _, hx, _⟩ => absurd hx (by omega)⟩⟩)
  · obtain ⟨a, h1, h2⟩ := H
    refine h2.trans ?_
    rcases h1 with ⟨h1, -⟩ | ⟨-, h1⟩
    · omega
    · rw [h1]
  · intro n a _
    simp (disch := omega) only [f_X3_reachByStretches_L9, nI_leI, nI_ltI, nI_eq, nI_add, pk_mul, pk_sub, nI_clamp, ib_nI, if_pos, if_neg, if_true, if_false, eq_self, ob, li_24]
  · intro n b a hb ha
    rcases ha with ⟨h1, s, s1, s2, s3, s4, s5, s6⟩ | ⟨h1, -⟩
    · have hstep : ¬ nI 24 < nI b := nI_nlt (by omega) (by omega)
      -- the run ends at b
      have close : (b = 24 ∨ ¬ opn S c b) → ∃ a' : Int32 × Int32 × Int32, ((b + 1 ≤ 24 ∧ ∃ s, s ≤ b + 1 ∧ a'.2.1 = nI s ∧ (∀ x, b + 1 - s ≤ x → x < b + 1 → opn S c x) ∧ (b + 1 = s ∨ ¬ opn S c (b + 1 - s - 1)) ∧ a'.1 = nI (cnt (Rk (opn S c) (dmp S c) 24) (b + 1 - s)) ∧ ((a'.2.2 = nI 1 ∧ ∃ x, b + 1 - s ≤ x ∧ x < b + 1 ∧ dmp S c x) ∨ (a'.2.2 = nI 0 ∧ ¬ ∃ x, b + 1 - s ≤ x ∧ x < b + 1 ∧ dmp S c x))) ∨ (b + 1 = 25 ∧ a'.1 = nI (cnt (Rk (opn S c) (dmp S c) 24) 24))) ∧ (if a.2.2 = 0 then f_X3_reachByStretches_L9 S (fun y => some y) n (a.1 + 0) 0 0 (nI b + 1) else f_X3_reachByStretches_L9 S (fun y => some y) n (a.1 + a.2.1) 0 0 (nI b + 1)) = f_X3_reachByStretches_L9 S (fun y => some y) n a'.1 a'.2.1 a'.2.2 (nI (b + 1)) := by
        intro hcl
        obtain ⟨r1, r2⟩ := run_cnt (O := opn S c) (D := dmp S c) h1 s1 s3 s4 hcl
        refine ⟨(nI (cnt (Rk (opn S c) (dmp S c) 24) b), nI 0, nI 0), ?_, ?_⟩
        · by_cases e : b = 24
          · exact Or.inr ⟨by omega, by rw [e]⟩
          · have hno : ¬ opn S c b := hcl.resolve_left e
            refine Or.inl ⟨by omega, 0, by omega, rfl, fun x _ hx => absurd hx (by omega), Or.inr hno, ?_, Or.inr ⟨rfl, fun ⟨x, _, hx, _⟩ => absurd hx (by omega)⟩⟩
            rw [Nat.sub_zero, cnt_f (fun h => hno h.opd)]
        · rcases s6 with ⟨g1, g2⟩ | ⟨g1, g2⟩
          · rw [g1, if_neg (by decide), s5, s2, nI_add, ← r1 g2, li_1, nI_add]
            rfl
          · rw [g1, if_pos (show nI 0 = 0 from rfl), s5, Int32.add_zero, ← r2 g2, li_1, nI_add]
            rfl
      by_cases e24 : b = 24
      · obtain ⟨a', k1, k2⟩ := close (Or.inl e24)
        refine ⟨a', k1, ?_⟩
        have hn : byc S c (nI b) = none := fnd_no (fun j _ hj => by
          obtain ⟨k, _, hk, ek⟩ := (L.1 j (by omega)).2.2.2.1
          have : ¬ S.2 4 j = nI b := fun h => by
            rw [ek, nI_eq (by omega) (by omega)] at h
            omega
          simpa using this)
        rw [← k2, f_X3_reachByStretches_L9, li_24, if_neg hstep, c_slotAt cc hc, show fnd (fun p => decide (S.2 4 p = nI b)) c 0 = none from hn, ob, oi_n, if_pos (by decide)]
      · rcases at_bay (b := b) (by omega) L with ⟨g1, g2, -⟩ | ⟨p, g1, g2, g3, g4⟩
        · obtain ⟨a', k1, k2⟩ := close (Or.inr g2)
          refine ⟨a', k1, ?_⟩
          rw [← k2, f_X3_reachByStretches_L9, li_24, if_neg hstep, c_slotAt cc hc, show fnd (fun p => decide (S.2 4 p = nI b)) c 0 = none from g1, ob, oi_n, if_pos (by decide)]
        · have hu : f_X3_reachByStretches_L9 S (fun y => some y) (n + 1) a.1 a.2.1 a.2.2 (nI b) = if S.2 5 p = 0 then (if a.2.2 = 0 then (if S.2 6 p = 0 then f_X3_reachByStretches_L9 S (fun y => some y) n a.1 (a.2.1 + 1) 0 (nI b + 1) else f_X3_reachByStretches_L9 S (fun y => some y) n a.1 (a.2.1 + 1) 1 (nI b + 1)) else f_X3_reachByStretches_L9 S (fun y => some y) n a.1 (a.2.1 + 1) 1 (nI b + 1)) else (if a.2.2 = 0 then f_X3_reachByStretches_L9 S (fun y => some y) n (a.1 + 0) 0 0 (nI b + 1) else f_X3_reachByStretches_L9 S (fun y => some y) n (a.1 + a.2.1) 0 0 (nI b + 1)) := by
            rw [f_X3_reachByStretches_L9, li_24, if_neg hstep, c_slotAt cc hc, show fnd (fun p => decide (S.2 4 p = nI b)) c 0 = some p from g2, ob, oi_s, if_neg (nI_pos (by omega)), if_pos (ib_nI (by omega) (by omega)), nI_clamp (by omega), if_pos (ib_nI (by omega) (by omega))]
          by_cases h5 : S.2 5 p = 0
          · have hb24 : b + 1 ≤ 24 := by omega
            have hs1 : s + 1 ≤ b + 1 := by omega
            have hO := g3.mpr h5
            have hext : ∀ x, b + 1 - (s + 1) ≤ x → x < b + 1 → opn S c x := by
              intro x x1 x2
              by_cases e : x = b
              · rw [e]; exact hO
              · exact s3 x (by omega) (by omega)
            have hcase : (∃ x, b + 1 - (s + 1) ≤ x ∧ x < b + 1 ∧ dmp S c x) ↔ (∃ x, b - s ≤ x ∧ x < b ∧ dmp S c x) ∨ dmp S c b := by
              refine ⟨fun ⟨x, x1, x2, x3⟩ => ?_, fun h => ?_⟩
              · by_cases e : x = b
                · rw [e] at x3
                  exact Or.inr x3
                · exact Or.inl ⟨x, by omega, by omega, x3⟩
              · rcases h with ⟨x, x1, x2, x3⟩ | h
                · exact ⟨x, by omega, by omega, x3⟩
                · exact ⟨b, by omega, by omega, h⟩
            have mk : ∀ v : Int32, ((v = nI 1 ∧ ∃ x, b + 1 - (s + 1) ≤ x ∧ x < b + 1 ∧ dmp S c x) ∨ (v = nI 0 ∧ ¬ ∃ x, b + 1 - (s + 1) ≤ x ∧ x < b + 1 ∧ dmp S c x)) → (fun b (a : Int32 × Int32 × Int32) => (b ≤ 24 ∧ ∃ s, s ≤ b ∧ a.2.1 = nI s ∧ (∀ x, b - s ≤ x → x < b → opn S c x) ∧ (b = s ∨ ¬ opn S c (b - s - 1)) ∧ a.1 = nI (cnt (Rk (opn S c) (dmp S c) 24) (b - s)) ∧ ((a.2.2 = nI 1 ∧ ∃ x, b - s ≤ x ∧ x < b ∧ dmp S c x) ∨ (a.2.2 = nI 0 ∧ ¬ ∃ x, b - s ≤ x ∧ x < b ∧ dmp S c x))) ∨ (b = 25 ∧ a.1 = nI (cnt (Rk (opn S c) (dmp S c) 24) 24))) (b + 1) (a.1, nI (s + 1), v) := by
              intro v hv
              refine Or.inl ⟨hb24, s + 1, hs1, rfl, hext, ?_, ?_, hv⟩
              · rw [show b + 1 - (s + 1) - 1 = b - s - 1 by omega]
                rcases s4 with s4 | s4
                · exact Or.inl (by omega)
                · exact Or.inr s4
              · rw [show b + 1 - (s + 1) = b - s by omega]
                exact s5
            rcases s6 with ⟨g6, g7⟩ | ⟨g6, g7⟩
            · refine ⟨_, mk (nI 1) (Or.inl ⟨rfl, hcase.mpr (Or.inl g7)⟩), ?_⟩
              rw [hu, if_pos h5, g6, if_neg (by decide), s2, li_1, nI_add, nI_add]
            · rcases (L.1 p g1).2.2.2.2.2.1 with h6 | h6
              · have hnd : ¬ dmp S c b := fun h => by
                  have := (g4.mp h).symm.trans h6
                  exact absurd this (by decide)
                refine ⟨_, mk (nI 0) (Or.inr ⟨rfl, fun h => (hcase.mp h).elim g7 hnd⟩), ?_⟩
                rw [hu, if_pos h5, g6, if_pos (show nI 0 = 0 from rfl), if_pos h6, s2, li_1, nI_add, nI_add]
                rfl
              · refine ⟨_, mk (nI 1) (Or.inl ⟨rfl, hcase.mpr (Or.inr (g4.mpr h6))⟩), ?_⟩
                rw [hu, if_pos h5, g6, if_pos (show nI 0 = 0 from rfl), h6, if_neg (by decide), s2, li_1, nI_add, nI_add]
          · obtain ⟨a', k1, k2⟩ := close (Or.inr (fun h => h5 (g3.mp h)))
            refine ⟨a', k1, ?_⟩
            rw [hu, if_neg h5]
            exact k2
    · omega
end REACH2
