/-! .. more that changes nothing: bays, kinds, ranks, duties -/
section ASKS2
variable {S M : Mem} {N : Nat}
theorem bay_ix {x : Int32} : ((x < 0 ∨ nI 24 ≤ x) ∧ f_X7_isBay x = some 0) ∨ ∃ b, b < 24 ∧ x = nI b ∧ f_X7_isBay x = some 1 := by
  rcases bay_cases x with ⟨-, h2, h3⟩ | ⟨-, h2, b, h0, h, rfl⟩
  · exact Or.inl ⟨h3, h2⟩
  · exact Or.inr ⟨b, by omega, rfl, h2⟩
theorem q_lotAt (s : St N S (M.2 0)) (x : Int32) : ((x < 0 ∨ nI 24 ≤ x) ∧ Thr M 1 (f_X7_lotAt M x)) ∨ ∃ b, b < 24 ∧ x = nI b ∧ ((f_X3_slotAt S x = some (-1) ∧ Thr M 2 (f_X7_lotAt M x)) ∨ ∃ p, p < 16 ∧ f_X3_slotAt S x = some (nI p) ∧ Val M (S.2 0 p) (f_X7_lotAt M x)) := by
  obtain ⟨c, t, q, R, I, D⟩ := s
  have hc := R.c
  rcases bay_ix (x := x) with ⟨h1, h2⟩ | ⟨b, hb, e, h2⟩
  · refine Or.inl ⟨h1, Thr.of 0 ?_⟩
    rw [f_X7_lotAt, h2, ob, if_pos rfl]
    rfl
  · refine Or.inr ⟨b, hb, e, ?_⟩
    have hi := r_inside R x
    have hi' : f_X7_inside (wrI M 0 0) x = some (oi (byc S c x)) := r_inside (M := wrI M 0 0) R x
    rcases fnd_at (g := S.2 4) (x := x) (c := c) with ⟨g1, g2⟩ | ⟨p, g1, g2, g3, g4⟩
    · refine Or.inl ⟨by rw [c_slotAt R.c1 R.c, g1]; rfl, Thr.of 0 ?_⟩
      rw [show byc S c x = none from g1] at hi
      rw [f_X7_lotAt, h2, ob, if_neg (by decide), hi, ob, oi_n, if_pos rfl]
      rfl
    · refine Or.inr ⟨p, by omega, by rw [c_slotAt R.c1 R.c, g1]; rfl, Val.of ?_⟩
      rw [show byc S c x = some p from g1] at hi hi'
      have h5 : f_X7_of (wrI M 0 0) (nI p) (nI 0) = some (S.2 0 p) := r_of (M := wrI M 0 0) R g2 (by omega)
      rw [f_X7_lotAt, h2, ob, if_neg (by decide), hi, ob, oi_s, if_neg (by rw [nI_m1 (by omega)]; exact id), hi', ob, oi_s]
      rw [show f_X7_of (wrI M 0 0) (nI p) 0 = some (S.2 0 p) from h5, ob]
      rfl
theorem q_next (s : St N S (M.2 0)) (x : Int32) : ((x < 0 ∨ nI 24 ≤ x) ∧ Thr M 1 (f_X7_nextEmptyBay M x)) ∨ ∃ b, b < 24 ∧ x = nI b ∧ ∃ E : Nat → Bool, (∀ y, y < 24 → (f_X3_slotAt S (nI y) = some (-1) ∧ E y = true) ∨ ((∃ p, p < 16 ∧ f_X3_slotAt S (nI y) = some (nI p)) ∧ E y = false)) ∧ fk (fnd E (24 - b) b) (Thr M 2 (f_X7_nextEmptyBay M x)) (fun y => Val M (nI y) (f_X7_nextEmptyBay M x)) := by
  obtain ⟨c, t, q, R, I, D⟩ := s
  have hc := R.c
  rcases bay_ix (x := x) with ⟨h1, h2⟩ | ⟨b, hb, e, h2⟩
  · refine Or.inl ⟨h1, Thr.of 0 ?_⟩
    rw [f_X7_nextEmptyBay, h2, ob, if_pos rfl]
    rfl
  · refine Or.inr ⟨b, hb, e, fun y => (byc S c (nI y)).isNone, fun y hy => ?_, ?_⟩
    · rcases fnd_at (g := S.2 4) (x := nI y) (c := c) with ⟨g1, g2⟩ | ⟨p, g1, g2, g3, g4⟩
      · exact Or.inl ⟨by rw [c_slotAt R.c1 R.c, g1]; rfl, by show (byc S c (nI y)).isNone = true; rw [show byc S c (nI y) = none from g1]; rfl⟩
      · exact Or.inr ⟨⟨p, by omega, by rw [c_slotAt R.c1 R.c, g1]; rfl⟩, by show (byc S c (nI y)).isNone = false; rw [show byc S c (nI y) = some p from g1]; rfl⟩
    · have H := lpS (fun n i => f_X7_nextEmptyBay_L27 (wrI M 0 0) ((f_X7_fails (wrI M 0 0) 2).bind fun (r9, M_10) => some (r9, M_10)) n i) ((f_X7_fails (wrI M 0 0) 2).bind fun (r9, M_10) => some (r9, M_10)) (fun y => (byc S c (nI y)).isNone) (fun y => some (nI y, wrI M 0 0)) 24 (fun n => ?_) (fun n i hi => ?_) (24 - b) 40 b (by omega) (by omega)
      · have hm : f_X7_nextEmptyBay M x = fk (fnd (fun y => (byc S c (nI y)).isNone) (24 - b) b) (some (0, wrI M 0 (nI 2))) (fun y => some (nI y, wrI M 0 (nI 0))) := by
          rw [f_X7_nextEmptyBay, h2, ob, if_neg (by decide), e]
          refine H.trans ?_
          have : ((f_X7_fails (wrI M 0 0) 2).bind fun (x : Int32 × Mem) => match x with | (r9, M_10) => some (r9, M_10)) = some (0, wrI M 0 (nI 2)) := by
            rw [f_X7_fails, ob, wrI_wrI]
            rfl
          rw [this]
          rfl
        rw [hm]
        cases fnd (fun y => (byc S c (nI y)).isNone) (24 - b) b with
        | none => exact Thr.of 0 rfl
        | some y => exact Val.of rfl
      · simp (disch := omega) only [f_X7_nextEmptyBay_L27, nI_leI, nI_ltI, nI_eq, nI_add, pk_mul, pk_sub, nI_clamp, ib_nI, if_pos, if_neg, if_true, if_false, eq_self, ob, li_24]
      · have hi' : f_X7_inside (wrI M 0 0) (nI i) = some (oi (byc S c (nI i))) := r_inside (M := wrI M 0 0) R (nI i)
        rcases fnd_at (g := S.2 4) (x := nI i) (c := c) with ⟨g1, g2⟩ | ⟨p, g1, g2, g3, g4⟩
        · have g1' : byc S c (nI i) = none := g1
          simp (disch := omega) only [f_X7_nextEmptyBay_L27, hi', g1', oi_n, Option.isNone_none, nI_leI, nI_ltI, nI_eq, nI_add, pk_mul, pk_sub, nI_clamp, ib_nI, if_pos, if_neg, if_true, if_false, eq_self, ob, li_24]
        · have g1' : byc S c (nI i) = some p := g1
          simp (disch := omega) only [f_X7_nextEmptyBay_L27, hi', g1', oi_s, nI_m1, Option.isNone_some, nI_leI, nI_ltI, nI_eq, nI_add, pk_mul, pk_sub, nI_clamp, ib_nI, if_pos, if_neg, if_true, if_false, eq_self, ob, li_24]
          rw [if_neg (by decide), li_1, nI_add]
theorem q_ofKind (s : St N S (M.2 0)) (x : Int32) : (f_X6_isKind x = some 0 ∧ Thr M 1 (f_X7_quantityOfKind M x)) ∨ (f_X6_isKind x = some 1 ∧ ∃ r, f_X3_quantityOf S x = some r ∧ Val M r (f_X7_quantityOfKind M x)) := by
  obtain ⟨c, t, q, R, I, D⟩ := s
  have hc := R.c
  have mc := R.c2
  rcases kind_cases x with ⟨k1, k2, k3⟩ | ⟨k1, k2, k3⟩
  · refine Or.inl ⟨k1, Thr.of 0 ?_⟩
    rw [f_X7_quantityOfKind, k2, ob, if_pos rfl]
    have i1 : ib 1 148 = true := by decide +kernel
    have c1 : Int32.toNatClampNeg 1 = 1 := by decide +kernel
    have z : ∀ (kk : Int32 → Option (Int32 × Mem)), f_X7_quantityOfKind_L20 x (wrI M 0 1) kk 40 0 0 = kk 0 := by
      intro kk
      rw [f_X7_quantityOfKind_L20, if_pos i1]
      by_cases g : (wrI M 0 1).2 0 (Int32.toNatClampNeg 1) ≤ 0
      · rw [if_pos g]
      · rw [if_neg g, if_neg (by rw [wrI_1, if_pos rfl]; decide)]
    rw [z]
    rfl
  · refine Or.inr ⟨k1, _, c_quantityOf R.c1 R.c x, Val.of ?_⟩
    rw [f_X7_quantityOfKind, k2, ob, if_neg (by decide)]
    refine (lpA (fun n i a => f_X7_quantityOfKind_L20 x (wrI M 0 0) (fun y13_2 => some (y13_2, (wrI M 0 0))) n a i) (fun y13_2 => some (y13_2, (wrI M 0 0))) (fun p => if S.2 1 p = x then S.2 2 p else 0) c ?_ ?_ (by omega)).trans rfl
    · intro n a
      simp (disch := omega) only [f_X7_quantityOfKind_L20, mc, wrI_2, li_0, li_1, li_2, li_3, li_4, li_5, li_6, li_7, li_8, li_9, li_10, li_11, li_12, li_16, li_20, li_23, li_24, li_30, li_32, li_35, li_37, li_40, li_42, li_46, li_48, li_53, li_57, li_58, li_59, li_60, li_63, li_64, li_65, li_97, li_99, li_100, li_101, li_120, li_126, li_132, li_148, li_300, li_999, li_1036, li_1184, li_9999, nn1, nI_leI, nI_ltI, nI_eq, nI_add, pk_mul, pk_sub, nI_clamp, ib_nI, if_pos, if_neg, if_true, if_false, eq_self, ob]
    · intro n i a hi
      have o1 : f_X7_of (wrI M 0 0) (nI i) 1 = some (S.2 1 i) := r_of (M := wrI M 0 0) (w := 1) R hi (by omega)
      have o2 : f_X7_of (wrI M 0 0) (nI i) 2 = some (S.2 2 i) := r_of (M := wrI M 0 0) (w := 2) R hi (by omega)
      have i1 : ib 1 148 = true := by decide +kernel
      have c1 : Int32.toNatClampNeg 1 = 1 := by decide +kernel
      have z0 : (wrI M 0 0).1 0 = 0 := by rw [wrI_1, if_pos rfl]
      have zc : ¬ (wrI M 0 0).2 0 1 ≤ nI i := by rw [wrI_2, mc, nI_leI (by omega) (by omega)]; omega
      by_cases e : S.2 1 i = x
      · rw [f_X7_quantityOfKind_L20, if_pos i1, c1, if_neg zc, if_pos z0, o1, ob, if_pos e, o2, ob, if_pos e, li_1, nI_add]
      · rw [f_X7_quantityOfKind_L20, if_pos i1, c1, if_neg zc, if_pos z0, o1, ob, if_neg e, if_neg e, li_1, nI_add]
/-- how many lots are worth more -/
def ahd (v : Nat → Int32) (c s : Nat) : Int32 := sI (fun o => if v s < v o then 1 else if v o = v s then (if s ≤ o then 0 else 1) else 0) c
theorem c_ahead {c s : Nat} (hc : S.1 0 = nI c) (h : c ≤ 16) (hs : s < c) : f_X3_countAhead S (nI s) = some (ahd (fun p => S.2 2 p * S.2 3 p) c s) := by
  rw [f_X3_countAhead, c_valueOf S (by omega), ob, li_0]
  refine lpA (fun n i a => f_X3_countAhead_L11 (nI s) (S.2 2 s * S.2 3 s) S (fun y => some y) n a i) (fun y => some y) (fun o => if S.2 2 s * S.2 3 s < S.2 2 o * S.2 3 o then 1 else if S.2 2 o * S.2 3 o = S.2 2 s * S.2 3 s then (if s ≤ o then 0 else 1) else 0) c ?_ ?_ (by omega)
  · intro n a
    simp (disch := omega) only [f_X3_countAhead_L11, hc, li_0, li_1, li_2, li_3, li_4, li_5, li_6, li_7, li_8, li_9, li_10, li_11, li_12, li_16, li_20, li_23, li_24, li_30, li_32, li_35, li_37, li_40, li_42, li_46, li_48, li_53, li_57, li_58, li_59, li_60, li_63, li_64, li_65, li_97, li_99, li_100, li_101, li_120, li_126, li_132, li_148, li_300, li_999, li_1036, li_1184, li_9999, nn1, nI_leI, nI_ltI, nI_eq, nI_add, pk_mul, pk_sub, nI_clamp, ib_nI, if_pos, if_neg, if_true, if_false, eq_self, ob]
  · intro n i a hi
    by_cases e1 : S.2 2 s * S.2 3 s < S.2 2 i * S.2 3 i
    · simp (disch := omega) only [f_X3_countAhead_L11, hc, c_valueOf, e1, nI_leI, nI_ltI, nI_eq, nI_add, pk_mul, pk_sub, nI_clamp, ib_nI, if_pos, if_neg, if_true, if_false, eq_self, ob, li_1]
    · by_cases e2 : S.2 2 i * S.2 3 i = S.2 2 s * S.2 3 s
      · by_cases e3 : s ≤ i
        · rw [f_X3_countAhead_L11, hc, if_neg (nI_ge hi (by omega)), c_valueOf S (by omega), ob, if_neg e1, if_pos e2, if_pos (nI_le e3 (by omega)), if_neg e1, if_pos e2, if_pos e3, Int32.add_zero, li_1, nI_add]
        · rw [f_X3_countAhead_L11, hc, if_neg (nI_ge hi (by omega)), c_valueOf S (by omega), ob, if_neg e1, if_pos e2, if_neg (nI_ge (by omega) (by omega)), if_neg e1, if_pos e2, if_neg e3, li_1, nI_add]
      · rw [f_X3_countAhead_L11, hc, if_neg (nI_ge hi (by omega)), c_valueOf S (by omega), ob, if_neg e1, if_neg e2, if_neg e1, if_neg e2, Int32.add_zero, li_1, nI_add]
theorem q_rank (s : St N S (M.2 0)) (x : Int32) : (f_X3_slotByValue S x = some (-1) ∧ Thr M 1 (f_X7_lotByValue M x)) ∨ ∃ p, p < 16 ∧ f_X3_slotByValue S x = some (nI p) ∧ Val M (S.2 0 p) (f_X7_lotByValue M x) := by
  obtain ⟨c, t, q, R, I, D⟩ := s
  have hc := R.c
  have cc := R.c1
  have mc := R.c2
  have hC : f_X3_slotByValue S x = some (oi (fnd (fun s => decide (ahd (fun p => S.2 2 p * S.2 3 p) c s = x)) c 0)) := by
    rw [f_X3_slotByValue, li_0]
    refine (lpS (fun n i => f_X3_slotByValue_L2 x S (some (-1)) n i) (some (-1)) (fun s => decide (ahd (fun p => S.2 2 p * S.2 3 p) c s = x)) (fun j => some (nI j)) c ?_ ?_ c 40 0 (by omega) (by omega)).trans (fk_so _ _ _)
    · intro n
      simp (disch := omega) only [f_X3_slotByValue_L2, cc, li_0, li_1, li_2, li_3, li_4, li_5, li_6, li_7, li_8, li_9, li_10, li_11, li_12, li_16, li_20, li_23, li_24, li_30, li_32, li_35, li_37, li_40, li_42, li_46, li_48, li_53, li_57, li_58, li_59, li_60, li_63, li_64, li_65, li_97, li_99, li_100, li_101, li_120, li_126, li_132, li_148, li_300, li_999, li_1036, li_1184, li_9999, nn1, nI_leI, nI_ltI, nI_eq, nI_add, pk_mul, pk_sub, nI_clamp, ib_nI, if_pos, if_neg, if_true, if_false, eq_self, ob]
    · intro n i hi
      have h9 := c_ahead cc hc hi
      simp (disch := omega) only [f_X3_slotByValue_L2, cc, h9, decide_eq_true_eq, nI_leI, nI_ltI, nI_eq, nI_add, pk_mul, pk_sub, nI_clamp, ib_nI, if_pos, if_neg, if_true, if_false, eq_self, ob, li_1]
  have hin : ∀ (a : Nat) (kk : Int32 → Option (Int32 × Mem)), a < c → f_X7_lotByValue_L22 x (nI a) (wrI M 0 0) kk 40 0 0 = kk (ahd (fun p => S.2 2 p * S.2 3 p) c a) := by
    intro a kk ha
    have wa : f_X7_worth (wrI M 0 0) (nI a) = some (S.2 2 a * S.2 3 a) := r_worth (M := wrI M 0 0) R ha
    have i1 : ib 1 148 = true := by decide +kernel
    have c1 : Int32.toNatClampNeg 1 = 1 := by decide +kernel
    refine lpA (fun n i z => f_X7_lotByValue_L22 x (nI a) (wrI M 0 0) kk n z i) kk (fun o => if S.2 2 a * S.2 3 a < S.2 2 o * S.2 3 o then 1 else if S.2 2 o * S.2 3 o = S.2 2 a * S.2 3 a then (if a ≤ o then 0 else 1) else 0) c ?_ ?_ (by omega)
    · intro n z
      simp (disch := omega) only [f_X7_lotByValue_L22, mc, wrI_2, li_0, li_1, li_2, li_3, li_4, li_5, li_6, li_7, li_8, li_9, li_10, li_11, li_12, li_16, li_20, li_23, li_24, li_30, li_32, li_35, li_37, li_40, li_42, li_46, li_48, li_53, li_57, li_58, li_59, li_60, li_63, li_64, li_65, li_97, li_99, li_100, li_101, li_120, li_126, li_132, li_148, li_300, li_999, li_1036, li_1184, li_9999, nn1, nI_leI, nI_ltI, nI_eq, nI_add, pk_mul, pk_sub, nI_clamp, ib_nI, if_pos, if_neg, if_true, if_false, eq_self, ob]
    · intro n i z hi
      have wi : f_X7_worth (wrI M 0 0) (nI i) = some (S.2 2 i * S.2 3 i) := r_worth (M := wrI M 0 0) R hi
      have zc : ¬ (wrI M 0 0).2 0 1 ≤ nI i := by rw [wrI_2, mc, nI_leI (by omega) (by omega)]; omega
      by_cases e1 : S.2 2 a * S.2 3 a < S.2 2 i * S.2 3 i
      · rw [f_X7_lotByValue_L22, if_pos i1, c1, if_neg zc, wi, ob, wa, ob, if_pos e1, if_pos e1, li_1, nI_add]
      · by_cases e2 : S.2 2 i * S.2 3 i = S.2 2 a * S.2 3 a
        · by_cases e3 : a ≤ i
          · rw [f_X7_lotByValue_L22, if_pos i1, c1, if_neg zc, wi, ob, wa, ob, if_neg e1, ob, ob, if_pos e2, if_pos (nI_le e3 (by omega)), if_neg e1, if_pos e2, if_pos e3, li_1, nI_add]
          · rw [f_X7_lotByValue_L22, if_pos i1, c1, if_neg zc, wi, ob, wa, ob, if_neg e1, ob, ob, if_pos e2, if_neg (nI_ge (by omega) (by omega)), if_neg e1, if_pos e2, if_neg e3, li_1, nI_add]
        · rw [f_X7_lotByValue_L22, if_pos i1, c1, if_neg zc, wi, ob, wa, ob, if_neg e1, ob, ob, if_neg e2, if_neg e1, if_neg e2, li_1, nI_add]
  have hM : f_X7_lotByValue M x = fk (fnd (fun s => decide (ahd (fun p => S.2 2 p * S.2 3 p) c s = x)) c 0) (some (0, wrI M 0 (nI 1))) (fun p => f_X7_of (wrI M 0 0) (nI p) 0 |>.bind fun r => some (r, wrI M 0 (nI 0))) := by
    rw [f_X7_lotByValue]
    have e9 : ((f_X7_fails (wrI M 0 0) 1).bind fun (z : Int32 × Mem) => match z with | (r21, M_22) => some (r21, M_22)) = some (0, wrI M 0 (nI 1)) := by
      rw [f_X7_fails, ob, wrI_wrI]
      rfl
    rw [e9]
    refine lpS (fun n i => f_X7_lotByValue_L7 x (wrI M 0 0) (some (0, wrI M 0 (nI 1))) n i) (some (0, wrI M 0 (nI 1))) (fun s => decide (ahd (fun p => S.2 2 p * S.2 3 p) c s = x)) (fun p => f_X7_of (wrI M 0 0) (nI p) 0 |>.bind fun r => some (r, wrI M 0 (nI 0))) c ?_ ?_ c 40 0 (by omega) (by omega)
    · intro n
      simp (disch := omega) only [f_X7_lotByValue_L7, mc, wrI_2, li_0, li_1, li_2, li_3, li_4, li_5, li_6, li_7, li_8, li_9, li_10, li_11, li_12, li_16, li_20, li_23, li_24, li_30, li_32, li_35, li_37, li_40, li_42, li_46, li_48, li_53, li_57, li_58, li_59, li_60, li_63, li_64, li_65, li_97, li_99, li_100, li_101, li_120, li_126, li_132, li_148, li_300, li_999, li_1036, li_1184, li_9999, nn1, nI_leI, nI_ltI, nI_eq, nI_add, pk_mul, pk_sub, nI_clamp, ib_nI, if_pos, if_neg, if_true, if_false, eq_self, ob]
    · intro n i hi
      have i1 : ib 1 148 = true := by decide +kernel
      have c1 : Int32.toNatClampNeg 1 = 1 := by decide +kernel
      have zc : ¬ (wrI M 0 0).2 0 1 ≤ nI i := by rw [wrI_2, mc, nI_leI (by omega) (by omega)]; omega
      rw [f_X7_lotByValue_L7, if_pos i1, c1, if_neg zc, hin i _ hi, li_1, nI_add]
      by_cases e : ahd (fun p => S.2 2 p * S.2 3 p) c i = x
      · rw [if_pos e, if_pos (by simpa using e)]
        rfl
      · rw [if_neg e, if_neg (by simpa using e)]
  rcases fnd_spec (fun s => decide (ahd (fun p => S.2 2 p * S.2 3 p) c s = x)) c 0 with ⟨h1, -⟩ | ⟨p, h1, -, h3, -⟩
  · rw [h1] at hC hM
    exact Or.inl ⟨hC, Thr.of 0 hM⟩
  · rw [h1] at hC hM
    have h5 : f_X7_of (wrI M 0 0) (nI p) 0 = some (S.2 0 p) := r_of (M := wrI M 0 0) (w := 0) R (by omega) (by omega)
    rw [fk_s, h5, ob] at hM
    exact Or.inr ⟨p, by omega, hC, Val.of hM⟩
end ASKS2
