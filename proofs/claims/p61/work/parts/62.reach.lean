/-! how far damp reaches: the model's rounds, the queue, the stretches -/
noncomputable def cnt (f : Nat → Prop) : Nat → Nat
  | 0 => 0
  | n + 1 => cnt f n + @ite Nat (f n) (Classical.propDecidable _) 1 0
theorem cnt_t {f : Nat → Prop} {n : Nat} (h : f n) : cnt f (n + 1) = cnt f n + 1 := by rw [cnt, @if_pos _ (Classical.propDecidable _) h]
theorem cnt_f {f : Nat → Prop} {n : Nat} (h : ¬ f n) : cnt f (n + 1) = cnt f n := by rw [cnt, @if_neg _ (Classical.propDecidable _) h, Nat.add_zero]
theorem cnt_congr {f g : Nat → Prop} : ∀ n, (∀ x, x < n → (f x ↔ g x)) → cnt f n = cnt g n := by
  intro n
  induction n with
  | zero => intro _; rfl
  | succ n ih =>
    intro h
    have := ih (fun x hx => h x (by omega))
    by_cases e : f n
    · rw [cnt_t e, cnt_t ((h n (by omega)).mp e), this]
    · rw [cnt_f e, cnt_f (fun k => e ((h n (by omega)).mpr k)), this]
theorem cnt_le (f : Nat → Prop) : ∀ n, cnt f n ≤ n := by
  intro n
  induction n with
  | zero => exact Nat.le_refl 0
  | succ n ih =>
    by_cases e : f n
    · rw [cnt_t e]; omega
    · rw [cnt_f e]; omega
theorem cnt_lt {f : Nat → Prop} {b : Nat} (hb : ¬ f b) : ∀ n, b < n → cnt f n < n := by
  intro n
  induction n with
  | zero => intro h; omega
  | succ n ih =>
    intro h
    by_cases e : f n
    · rw [cnt_t e]
      by_cases g : b = n
      · rw [g] at hb
        exact absurd e hb
      · have := ih (by omega)
        omega
    · rw [cnt_f e]
      have := cnt_le f n
      omega
theorem cnt_add {f g : Nat → Prop} {b : Nat} (hb : ¬ f b) (hg : ∀ x, g x ↔ f x ∨ x = b) : ∀ n, cnt g n = cnt f n + if b < n then 1 else 0 := by
  intro n
  induction n with
  | zero => rw [if_neg (by omega)]; rfl
  | succ n ih =>
    by_cases e : n = b
    · subst e
      rw [cnt_t ((hg n).mpr (Or.inr rfl)), cnt_f hb, ih, if_neg (by omega), if_pos (by omega)]
    · have : g n ↔ f n := by
        rw [hg n]
        exact ⟨fun h => h.elim id (fun h => absurd h e), Or.inl⟩
      by_cases k : f n
      · rw [cnt_t (this.mpr k), cnt_t k, ih]
        by_cases q : b < n
        · rw [if_pos q, if_pos (by omega)]
        · rw [if_neg q, if_neg (by omega)]
      · rw [cnt_f (fun h => k (this.mp h)), cnt_f k, ih]
        by_cases q : b < n
        · rw [if_pos q, if_pos (by omega)]
        · rw [if_neg q, if_neg (by omega)]
/-- a sum of flags -/
theorem sI_cnt {g : Nat → Int32} {f : Nat → Prop} : ∀ n, (∀ x, x < n → (f x → g x = nI 1) ∧ (¬ f x → g x = nI 0)) → sI g n = nI (cnt f n) := by
  intro n
  induction n with
  | zero => intro _; rfl
  | succ n ih =>
    intro h
    rw [sI, ih (fun x hx => h x (by omega))]
    by_cases e : f n
    · rw [cnt_t e, (h n (by omega)).1 e, nI_add]
    · rw [cnt_f e, (h n (by omega)).2 e, nI_add, Nat.add_zero]
/-- reached in k steps from a damp bay, through open bays -/
def Rk (O D : Nat → Prop) (k b : Nat) : Prop := ∃ d, d < 24 ∧ D d ∧ b ≤ d + k ∧ d ≤ b + k ∧ ∀ x, (b ≤ x ∧ x ≤ d) ∨ (d ≤ x ∧ x ≤ b) → O x
theorem Rk.mono {O D : Nat → Prop} {k k' b : Nat} (h : Rk O D k b) (hk : k ≤ k') : Rk O D k' b := by
  obtain ⟨d, h1, h2, h3, h4, h5⟩ := h
  exact ⟨d, h1, h2, by omega, by omega, h5⟩
theorem Rk.all {O D : Nat → Prop} {k b : Nat} (h : Rk O D k b) (hb : b < 24) : Rk O D 24 b := by
  obtain ⟨d, h1, h2, h3, h4, h5⟩ := h
  exact ⟨d, h1, h2, by omega, by omega, h5⟩
theorem Rk.opd {O D : Nat → Prop} {k b : Nat} (h : Rk O D k b) : O b := by
  obtain ⟨d, h1, h2, h3, h4, h5⟩ := h
  by_cases e : b ≤ d
  · exact h5 b (Or.inl ⟨Nat.le_refl b, e⟩)
  · exact h5 b (Or.inr ⟨by omega, Nat.le_refl b⟩)
theorem Rk.next {O D : Nat → Prop} {b z : Nat} (h : Rk O D 24 b) (hz : z < 24) (hb : z = b + 1 ∨ z + 1 = b) (ho : O z) : Rk O D 24 z := by
  have hob := h.opd
  obtain ⟨d, h1, h2, h3, h4, h5⟩ := h
  refine ⟨d, h1, h2, by omega, by omega, fun x hx => ?_⟩
  by_cases e : x = z
  · rw [e]; exact ho
  · by_cases f : x = b
    · rw [f]; exact hob
    · exact h5 x (by omega)
/-- one step nearer -/
theorem Rk.step {O D : Nat → Prop} {k b : Nat} (h : Rk O D (k + 1) b) (hb : b < 24) : Rk O D k b ∨ (O b ∧ ((0 < b ∧ Rk O D k (b - 1)) ∨ (b + 1 < 24 ∧ Rk O D k (b + 1)))) := by
  have ho := h.opd
  obtain ⟨d, h1, h2, h3, h4, h5⟩ := h
  by_cases e : b = d
  · exact Or.inl ⟨d, h1, h2, by omega, by omega, h5⟩
  · by_cases f : b < d
    · exact Or.inr ⟨ho, Or.inr ⟨by omega, d, h1, h2, by omega, by omega, fun x hx => h5 x (by omega)⟩⟩
    · exact Or.inr ⟨ho, Or.inl ⟨by omega, d, h1, h2, by omega, by omega, fun x hx => h5 x (by omega)⟩⟩
theorem Rk.zero {O D : Nat → Prop} {b : Nat} (hD : ∀ b, D b → O b) (hb : b < 24) (h : D b) : Rk O D 0 b := ⟨b, hb, h, by omega, by omega, fun x hx => by
  have : x = b := by omega
  rw [this]
  exact hD b h⟩
abbrev opn (S : Mem) (c : Nat) : Nat → Prop := Bay S (fun p => S.2 5 p = 0) c
abbrev dmp (S : Mem) (c : Nat) : Nat → Prop := Bay S (fun p => S.2 6 p = 1) c
theorem dmp_opn {S : Mem} {c : Nat} (L : LotsOK S c) : ∀ b, dmp S c b → opn S c b := by
  intro b ⟨p, h1, h2, h3⟩
  refine ⟨p, h1, h2, ?_⟩
  obtain ⟨-, -, -, -, l5, -, l7⟩ := L.1 p h1
  rcases l5 with l5 | l5
  · exact l5
  · have h3 : S.2 6 p = 1 := h3
    rw [l7 l5] at h3
    exact absurd h3 (by decide)
section REACH
variable {S M : Mem} {N : Nat}
/-- a round of the model -/
theorem m_round {c t q : Nat} {D : Nat → Prop} (R : Rel S (M.2 0) c t q) (L : LotsOK S c) (x1 : Int32) (k : Mem → Option (Int32 × Mem)) (r : Nat) (hD : D = dmp S c) (hs : ∀ b, b < 24 → (M.2 9 b = nI 0 ∨ M.2 9 b = nI 1) ∧ (M.2 9 b = nI 1 → Rk (opn S c) D 24 b) ∧ (Rk (opn S c) D r b → M.2 9 b = nI 1)) :
    ∃ M', f_X7_dampReach_L72 x1 k 40 0 M = k M' ∧ M'.1 = M.1 ∧ (∀ j y, j ≠ 9 → M'.2 j y = M.2 j y) ∧ ∀ b, b < 24 → (M'.2 9 b = nI 0 ∨ M'.2 9 b = nI 1) ∧ (M'.2 9 b = nI 1 → Rk (opn S c) D 24 b) ∧ (Rk (opn S c) D (r + 1) b → M'.2 9 b = nI 1) := by
  have hc := R.c
  rw [li_0]
  have H := lpI (fun n i a => f_X7_dampReach_L72 x1 k n i a) k (fun i a => a.1 = M.1 ∧ (∀ j y, j ≠ 9 → a.2 j y = M.2 j y) ∧ (∀ b, b < 24 → (a.2 9 b = nI 0 ∨ a.2 9 b = nI 1) ∧ (a.2 9 b = nI 1 → Rk (opn S c) D 24 b) ∧ (M.2 9 b = nI 1 → a.2 9 b = nI 1)) ∧ ∀ p, p < i → ∀ b, S.2 4 p = nI b → b < 24 → S.2 5 p = 0 → ((0 < b ∧ M.2 9 (b - 1) = nI 1) ∨ (b + 1 < 24 ∧ M.2 9 (b + 1) = nI 1)) → a.2 9 b = nI 1) c ?_ ?_ c 40 0 M (by omega) (by omega) ⟨rfl, fun _ _ _ => rfl, fun b hb => ⟨(hs b hb).1, (hs b hb).2.1, id⟩, fun p hp => absurd hp (by omega)⟩
  · obtain ⟨M', ⟨h1, h2, h3, h4⟩, h5⟩ := H
    refine ⟨M', h5, h1, h2, fun b hb => ⟨(h3 b hb).1, (h3 b hb).2.1, fun hr => ?_⟩⟩
    rcases hr.step hb with g | ⟨⟨p, g1, g2, g3⟩, g4⟩
    · exact (h3 b hb).2.2 ((hs b hb).2.2 g)
    · refine h4 p g1 b g2 hb g3 ?_
      rcases g4 with ⟨g5, g6⟩ | ⟨g5, g6⟩
      · exact Or.inl ⟨g5, (hs (b - 1) (by omega)).2.2 g6⟩
      · exact Or.inr ⟨g5, (hs (b + 1) (by omega)).2.2 g6⟩
  · intro n a ⟨a1, a2, a3, a4⟩
    have mc : a.2 0 1 = nI c := by rw [a2 0 1 (by omega), R.c2]
    simp (disch := omega) only [f_X7_dampReach_L72, mc, li_0, li_1, li_2, li_3, li_4, li_5, li_6, li_7, li_8, li_9, li_10, li_11, li_12, li_16, li_20, li_23, li_24, li_30, li_32, li_35, li_37, li_40, li_42, li_46, li_48, li_53, li_57, li_58, li_59, li_60, li_63, li_64, li_65, li_97, li_99, li_100, li_101, li_120, li_126, li_132, li_148, li_300, li_999, li_1036, li_1184, li_9999, nn1, nI_leI, nI_ltI, nI_eq, nI_add, pk_mul, pk_sub, nI_clamp, ib_nI, if_pos, if_neg, if_true, if_false, eq_self, ob]
  · intro n i a hi ⟨a1, a2, a3, a4⟩
    have mc : a.2 0 1 = nI c := by rw [a2 0 1 (by omega), R.c2]
    obtain ⟨b, _, hb, eb⟩ := (L.1 i hi).2.2.2.1
    have o4 : f_X7_of a (nI i) (nI 4) = some (nI b) := by rw [m_of a (by omega), a2 0 _ (by omega), R.at hi (by omega), eb]
    have o5 : f_X7_of a (nI i) (nI 5) = some (S.2 5 i) := by rw [m_of a (by omega), a2 0 _ (by omega), R.at hi (by omega)]
    have n01' : ¬ (nI 0 = nI 1) := by decide
    have n10' : ¬ (nI 1 = nI 0) := by decide
    -- nothing is marked
    have skip : (¬ (S.2 5 i = 0 ∧ ((0 < b ∧ a.2 9 (b - 1) = nI 1) ∨ (b + 1 < 24 ∧ a.2 9 (b + 1) = nI 1)))) → a.1 = M.1 ∧ (∀ j y, j ≠ 9 → a.2 j y = M.2 j y) ∧ (∀ b, b < 24 → (a.2 9 b = nI 0 ∨ a.2 9 b = nI 1) ∧ (a.2 9 b = nI 1 → Rk (opn S c) D 24 b) ∧ (M.2 9 b = nI 1 → a.2 9 b = nI 1)) ∧ ∀ p, p < i + 1 → ∀ b, S.2 4 p = nI b → b < 24 → S.2 5 p = 0 → ((0 < b ∧ M.2 9 (b - 1) = nI 1) ∨ (b + 1 < 24 ∧ M.2 9 (b + 1) = nI 1)) → a.2 9 b = nI 1 := by
      intro hno
      refine ⟨a1, a2, a3, fun p hp b' eb' hb' h5 hn => ?_⟩
      by_cases e : p = i
      · subst e
        have : b' = b := by
          have := eb'.symm.trans eb
          rw [nI_eq (by omega) (by omega)] at this
          exact this
        subst this
        refine absurd ⟨h5, ?_⟩ hno
        rcases hn with ⟨k1, k2⟩ | ⟨k1, k2⟩
        · exact Or.inl ⟨k1, (a3 _ (by omega)).2.2 k2⟩
        · exact Or.inr ⟨k1, (a3 _ (by omega)).2.2 k2⟩
      · exact a4 p (by omega) b' eb' hb' h5 hn
    have mark : (S.2 5 i = 0 ∧ ((0 < b ∧ a.2 9 (b - 1) = nI 1) ∨ (b + 1 < 24 ∧ a.2 9 (b + 1) = nI 1))) → (wrA a 9 (nI b) (nI 1)).1 = M.1 ∧ (∀ j y, j ≠ 9 → (wrA a 9 (nI b) (nI 1)).2 j y = M.2 j y) ∧ (∀ b', b' < 24 → ((wrA a 9 (nI b) (nI 1)).2 9 b' = nI 0 ∨ (wrA a 9 (nI b) (nI 1)).2 9 b' = nI 1) ∧ ((wrA a 9 (nI b) (nI 1)).2 9 b' = nI 1 → Rk (opn S c) D 24 b') ∧ (M.2 9 b' = nI 1 → (wrA a 9 (nI b) (nI 1)).2 9 b' = nI 1)) ∧ ∀ p, p < i + 1 → ∀ b', S.2 4 p = nI b' → b' < 24 → S.2 5 p = 0 → ((0 < b' ∧ M.2 9 (b' - 1) = nI 1) ∨ (b' + 1 < 24 ∧ M.2 9 (b' + 1) = nI 1)) → (wrA a 9 (nI b) (nI 1)).2 9 b' = nI 1 := by
      intro hyes
      have hR : Rk (opn S c) D 24 b := by
        have ho : opn S c b := ⟨i, hi, eb, hyes.1⟩
        rcases hyes.2 with ⟨k1, k2⟩ | ⟨k1, k2⟩
        · exact ((a3 _ (by omega)).2.1 k2).next (by omega) (by omega) ho
        · exact ((a3 _ (by omega)).2.1 k2).next (by omega) (by omega) ho
      refine ⟨a1, fun j y hj => by rw [wr_same _ _ _ _ _ _ hj, a2 j y hj], fun b' hb' => ?_, fun p hp b' eb' hb' h5 hn => ?_⟩
      · rw [wr_at _ _ (by omega)]
        by_cases e : b' = b
        · rw [if_pos ⟨rfl, e⟩, e]
          exact ⟨Or.inr rfl, fun _ => hR, fun _ => rfl⟩
        · rw [if_neg (fun h => e h.2)]
          exact a3 b' hb'
      · rw [wr_at _ _ (by omega)]
        by_cases e : b' = b
        · rw [if_pos ⟨rfl, e⟩]
        · rw [if_neg (fun h => e h.2)]
          by_cases f : p = i
          · subst f
            have : b' = b := by
              have := eb'.symm.trans eb
              rw [nI_eq (by omega) (by omega)] at this
              exact this
            exact absurd this e
          · exact a4 p (by omega) b' eb' hb' h5 hn
    rcases (L.1 i hi).2.2.2.2.1 with g | g
    · have g' : S.2 5 i = nI 0 := g
      rw [g'] at o5
      by_cases b0 : b = 0
      · rcases (a3 (b + 1) (by omega)).1 with w | w
        · refine ⟨a, skip (fun h => ?_), ?_⟩
          · rcases h.2 with h | h
            · omega
            · exact n01' (w.symm.trans h.2)
          · simp (disch := omega) only [f_X7_dampReach_L72, mc, o4, o5, w, n01', li_0, li_1, li_2, li_3, li_4, li_5, li_6, li_7, li_8, li_9, li_10, li_11, li_12, li_16, li_20, li_23, li_24, li_30, li_32, li_35, li_37, li_40, li_42, li_46, li_48, li_53, li_57, li_58, li_59, li_60, li_63, li_64, li_65, li_97, li_99, li_100, li_101, li_120, li_126, li_132, li_148, li_300, li_999, li_1036, li_1184, li_9999, nn1, nI_leI, nI_ltI, nI_eq, nI_add, pk_mul, pk_sub, nI_clamp, ib_nI, if_pos, if_neg, if_true, if_false, eq_self, ob]
        · refine ⟨_, mark ⟨g, Or.inr ⟨by omega, w⟩⟩, ?_⟩
          simp (disch := omega) only [f_X7_dampReach_L72, mc, o4, o5, w, li_0, li_1, li_2, li_3, li_4, li_5, li_6, li_7, li_8, li_9, li_10, li_11, li_12, li_16, li_20, li_23, li_24, li_30, li_32, li_35, li_37, li_40, li_42, li_46, li_48, li_53, li_57, li_58, li_59, li_60, li_63, li_64, li_65, li_97, li_99, li_100, li_101, li_120, li_126, li_132, li_148, li_300, li_999, li_1036, li_1184, li_9999, nn1, nI_leI, nI_ltI, nI_eq, nI_add, pk_mul, pk_sub, nI_clamp, ib_nI, if_pos, if_neg, if_true, if_false, eq_self, ob]
      · rcases (a3 (b - 1) (by omega)).1 with w0 | w0
        · by_cases b23 : b = 23
          · refine ⟨a, skip (fun h => ?_), ?_⟩
            · rcases h.2 with h | h
              · exact n01' (w0.symm.trans h.2)
              · omega
            · simp (disch := omega) only [f_X7_dampReach_L72, mc, o4, o5, w0, n01', li_0, li_1, li_2, li_3, li_4, li_5, li_6, li_7, li_8, li_9, li_10, li_11, li_12, li_16, li_20, li_23, li_24, li_30, li_32, li_35, li_37, li_40, li_42, li_46, li_48, li_53, li_57, li_58, li_59, li_60, li_63, li_64, li_65, li_97, li_99, li_100, li_101, li_120, li_126, li_132, li_148, li_300, li_999, li_1036, li_1184, li_9999, nn1, nI_leI, nI_ltI, nI_eq, nI_add, pk_mul, pk_sub, nI_clamp, ib_nI, if_pos, if_neg, if_true, if_false, eq_self, ob]
          · rcases (a3 (b + 1) (by omega)).1 with w | w
            · refine ⟨a, skip (fun h => ?_), ?_⟩
              · rcases h.2 with h | h
                · exact n01' (w0.symm.trans h.2)
                · exact n01' (w.symm.trans h.2)
              · simp (disch := omega) only [f_X7_dampReach_L72, mc, o4, o5, w0, w, n01', li_0, li_1, li_2, li_3, li_4, li_5, li_6, li_7, li_8, li_9, li_10, li_11, li_12, li_16, li_20, li_23, li_24, li_30, li_32, li_35, li_37, li_40, li_42, li_46, li_48, li_53, li_57, li_58, li_59, li_60, li_63, li_64, li_65, li_97, li_99, li_100, li_101, li_120, li_126, li_132, li_148, li_300, li_999, li_1036, li_1184, li_9999, nn1, nI_leI, nI_ltI, nI_eq, nI_add, pk_mul, pk_sub, nI_clamp, ib_nI, if_pos, if_neg, if_true, if_false, eq_self, ob]
            · refine ⟨_, mark ⟨g, Or.inr ⟨by omega, w⟩⟩, ?_⟩
              simp (disch := omega) only [f_X7_dampReach_L72, mc, o4, o5, w0, w, n01', li_0, li_1, li_2, li_3, li_4, li_5, li_6, li_7, li_8, li_9, li_10, li_11, li_12, li_16, li_20, li_23, li_24, li_30, li_32, li_35, li_37, li_40, li_42, li_46, li_48, li_53, li_57, li_58, li_59, li_60, li_63, li_64, li_65, li_97, li_99, li_100, li_101, li_120, li_126, li_132, li_148, li_300, li_999, li_1036, li_1184, li_9999, nn1, nI_leI, nI_ltI, nI_eq, nI_add, pk_mul, pk_sub, nI_clamp, ib_nI, if_pos, if_neg, if_true, if_false, eq_self, ob]
        · refine ⟨_, mark ⟨g, Or.inl ⟨by omega, w0⟩⟩, ?_⟩
          simp (disch := omega) only [f_X7_dampReach_L72, mc, o4, o5, w0, li_0, li_1, li_2, li_3, li_4, li_5, li_6, li_7, li_8, li_9, li_10, li_11, li_12, li_16, li_20, li_23, li_24, li_30, li_32, li_35, li_37, li_40, li_42, li_46, li_48, li_53, li_57, li_58, li_59, li_60, li_63, li_64, li_65, li_97, li_99, li_100, li_101, li_120, li_126, li_132, li_148, li_300, li_999, li_1036, li_1184, li_9999, nn1, nI_leI, nI_ltI, nI_eq, nI_add, pk_mul, pk_sub, nI_clamp, ib_nI, if_pos, if_neg, if_true, if_false, eq_self, ob]
    · have g' : S.2 5 i = nI 1 := g
      rw [g'] at o5
      refine ⟨a, skip (fun h => absurd (h.1.symm.trans g) (by decide)), ?_⟩
      simp (disch := omega) only [f_X7_dampReach_L72, mc, o4, o5, n10', li_0, li_1, li_2, li_3, li_4, li_5, li_6, li_7, li_8, li_9, li_10, li_11, li_12, li_16, li_20, li_23, li_24, li_30, li_32, li_35, li_37, li_40, li_42, li_46, li_48, li_53, li_57, li_58, li_59, li_60, li_63, li_64, li_65, li_97, li_99, li_100, li_101, li_120, li_126, li_132, li_148, li_300, li_999, li_1036, li_1184, li_9999, nn1, nI_leI, nI_ltI, nI_eq, nI_add, pk_mul, pk_sub, nI_clamp, ib_nI, if_pos, if_neg, if_true, if_false, eq_self, ob]
end REACH
