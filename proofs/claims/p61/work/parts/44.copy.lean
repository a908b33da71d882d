/-! copying, leaving -/
theorem wr_at (S : Mem) (k : Nat) {i : Nat} (h : i < 2 ^ 31) (v : Int32) (j x : Nat) : (wrA S k (nI i) v).2 j x = if j = k ∧ x = i then v else S.2 j x := by
  rw [wrA_2, nI_clamp h]
  by_cases e : j = k
  · subst e
    rw [if_pos rfl, up_at]
    by_cases f : x = i
    · rw [if_pos f, if_pos ⟨rfl, f⟩]
    · rw [if_neg f, if_neg (fun h => f h.2)]
  · rw [if_neg e, if_neg (fun h => e h.1)]
theorem j7 {j : Nat} (h : j < 7) : j = 0 ∨ j = 1 ∨ j = 2 ∨ j = 3 ∨ j = 4 ∨ j = 5 ∨ j = 6 := by omega
theorem lotOK.same {S T : Mem} {p p' : Nat} (h : ∀ j, j < 7 → S.2 j p = T.2 j p') (L : lotOK T p') : lotOK S p := by
  unfold lotOK
  rw [h 1 (by omega), h 2 (by omega), h 3 (by omega), h 4 (by omega), h 5 (by omega), h 6 (by omega)]
  exact L
theorem ts_eq (S : Mem) (a b : Int32) : f_X3_takeSlot_s S a b = f_X3_takeSlot_o S S a b := rfl
theorem c_take (S : Mem) {T : Mem} {a b : Nat} (ha : a < 16) (hb : b < 16) (L : lotOK T a) : ∃ S', f_X3_takeSlot_o S T (nI a) (nI b) = some S' ∧ S'.1 = S.1 ∧ ∀ j i, S'.2 j i = if j < 7 ∧ i = b then T.2 j a else S.2 j i := by
  obtain ⟨h1, -, -, -, h5, h6, -⟩ := L
  obtain ⟨e1, -, l1⟩ := h1.nn (by omega)
  have v1 : vp_nar .char (T.2 1 a) = T.2 1 a := by rw [e1]; exact vnc (by omega)
  refine ⟨_, by simp (disch := omega) only [f_X3_takeSlot_o, v1, vnb h5, vnb h6, nI_leI, nI_ltI, nI_eq, nI_add, pk_mul, pk_sub, nI_clamp, ib_nI, if_pos, if_neg, if_true, if_false, eq_self, ob]; rfl, ?_, fun j i => ?_⟩
  · rfl
  by_cases hj : j < 7
  · rcases j7 hj with e | e | e | e | e | e | e <;> subst e <;> simp (disch := omega) [wr_at]
  · simp (disch := omega) only [wr_at, if_neg]
theorem c_copyLots (S : Mem) {T : Mem} {c : Nat} (hc : T.1 0 = nI c) (h : c ≤ 16) (L : ∀ p, p < c → lotOK T p) : ∃ S', f_X3_copyFrom S T = some S' ∧ (∀ k, S'.1 k = if k < 2 then T.1 k else S.1 k) ∧ (∀ j i, i < c → j < 7 → S'.2 j i = T.2 j i) ∧ ∀ j i, 7 ≤ j → S'.2 j i = S.2 j i := by
  unfold f_X3_copyFrom
  rw [li_0]
  have H := lpI (fun n i a => f_X3_copyFrom_L2 T (fun S_4 => some (wrI (wrI S_4 0 (T.1 0)) 1 (T.1 1))) n i a) (fun S_4 => some (wrI (wrI S_4 0 (T.1 0)) 1 (T.1 1))) (fun i a => a.1 = S.1 ∧ (∀ j x, x < i → j < 7 → a.2 j x = T.2 j x) ∧ ∀ j x, 7 ≤ j → a.2 j x = S.2 j x) c ?_ ?_ c 40 0 S (by omega) (by omega) ⟨rfl, fun j x hx => absurd hx (by omega), fun j x _ => rfl⟩
  · obtain ⟨a, ⟨h1, h2, h3⟩, h4⟩ := H
    refine ⟨_, h4, fun k => ?_, fun j i hi hj => ?_, fun j i hj => ?_⟩
    · simp only [wrI_1, h1]
      by_cases e : k = 1
      · rw [if_pos e, if_pos (by omega), e]
      · by_cases e0 : k = 0
        · rw [if_neg e, if_pos e0, if_pos (by omega), e0]
        · rw [if_neg e, if_neg e0, if_neg (by omega)]
    · rw [wrI_2, wrI_2, h2 j i hi hj]
    · rw [wrI_2, wrI_2, h3 j i hj]
  · intro n a _
    simp (disch := omega) only [f_X3_copyFrom_L2, hc, nI_leI, nI_ltI, nI_eq, nI_add, pk_mul, pk_sub, nI_clamp, ib_nI, if_pos, if_neg, if_true, if_false, eq_self, ob]
  · intro n i a hi ⟨a1, a2, a3⟩
    obtain ⟨S', e, b1, b2⟩ := c_take a (a := i) (b := i) (by omega) (by omega) (L i hi)
    refine ⟨S', ⟨by rw [b1, a1], fun j x hx hj => ?_, fun j x hj => ?_⟩, ?_⟩
    · rw [b2]
      by_cases e : x = i
      · rw [if_pos ⟨hj, e⟩, e]
      · rw [if_neg (fun h => e h.2), a2 j x (by omega) hj]
    · rw [b2, if_neg (by omega), a3 j x hj]
    · simp (disch := omega) only [f_X3_copyFrom_L2, hc, e, li_1, nI_leI, nI_ltI, nI_eq, nI_add, pk_mul, pk_sub, nI_clamp, ib_nI, if_pos, if_neg, if_true, if_false, eq_self, ob]
theorem c_copyTrf (S : Mem) {T : Mem} {t : Nat} (hc : T.1 2 = nI t) (h : t ≤ 6) : ∃ S', f_X5_copyFrom S T = some S' ∧ (∀ k, S'.1 k = if k = 2 then T.1 k else S.1 k) ∧ (∀ j i, i < t → (j = 7 ∨ j = 8) → S'.2 j i = T.2 j i) ∧ ∀ j i, j ≠ 7 → j ≠ 8 → S'.2 j i = S.2 j i := by
  unfold f_X5_copyFrom
  rw [li_0]
  have H := lpI (fun n i a => f_X5_copyFrom_L2 T (fun S_6 => some (wrI S_6 2 (T.1 2))) n i a) (fun S_6 => some (wrI S_6 2 (T.1 2))) (fun i a => a.1 = S.1 ∧ (∀ j x, x < i → (j = 7 ∨ j = 8) → a.2 j x = T.2 j x) ∧ ∀ j x, j ≠ 7 → j ≠ 8 → a.2 j x = S.2 j x) t ?_ ?_ t 40 0 S (by omega) (by omega) ⟨rfl, fun j x hx => absurd hx (by omega), fun j x _ _ => rfl⟩
  · obtain ⟨a, ⟨h1, h2, h3⟩, h4⟩ := H
    refine ⟨_, h4, fun k => ?_, fun j i hi hj => ?_, fun j i hj hj2 => ?_⟩
    · simp only [wrI_1, h1]
      by_cases e : k = 2
      · rw [if_pos e, if_pos e, e]
      · rw [if_neg e, if_neg e]
    · rw [wrI_2, h2 j i hi hj]
    · rw [wrI_2, h3 j i hj hj2]
  · intro n a _
    simp (disch := omega) only [f_X5_copyFrom_L2, hc, nI_leI, nI_ltI, nI_eq, nI_add, pk_mul, pk_sub, nI_clamp, ib_nI, if_pos, if_neg, if_true, if_false, eq_self, ob]
  · intro n i a hi ⟨a1, a2, a3⟩
    refine ⟨_, ⟨?_, fun j x hx hj => ?_, fun j x hj hj2 => ?_⟩, by simp (disch := omega) only [f_X5_copyFrom_L2, hc, li_1, nI_leI, nI_ltI, nI_eq, nI_add, pk_mul, pk_sub, nI_clamp, ib_nI, if_pos, if_neg, if_true, if_false, eq_self, ob]; rfl⟩
    · rw [wrA_1, wrA_1, a1]
    · rcases hj with e | e <;> subst e
      · by_cases e : x = i
        · subst e
          simp (disch := omega) [wr_at]
        · simp (disch := omega) [wr_at, e, a2 7 x (by omega) (Or.inl rfl)]
      · by_cases e : x = i
        · subst e
          simp (disch := omega) [wr_at]
        · simp (disch := omega) [wr_at, e, a2 8 x (by omega) (Or.inr rfl)]
    · simp (disch := omega) [wr_at, hj, hj2, a3 j x hj hj2]
theorem c_copyQue (S : Mem) {T : Mem} {q : Nat} (hc : T.1 7 = nI q) (h : q ≤ 16) : ∃ S', f_X0_copyFrom S T = some S' ∧ (∀ k, S'.1 k = if k = 7 then T.1 k else S.1 k) ∧ (∀ i, i < q → S'.2 9 i = T.2 9 i) ∧ ∀ j i, j ≠ 9 → S'.2 j i = S.2 j i := by
  unfold f_X0_copyFrom
  rw [li_0]
  have H := lpI (fun n i a => f_X0_copyFrom_L2 T (fun S_4 => some (wrI S_4 7 (T.1 7))) n i a) (fun S_4 => some (wrI S_4 7 (T.1 7))) (fun i a => a.1 = S.1 ∧ (∀ x, x < i → a.2 9 x = T.2 9 x) ∧ ∀ j x, j ≠ 9 → a.2 j x = S.2 j x) q ?_ ?_ q 40 0 S (by omega) (by omega) ⟨rfl, fun x hx => absurd hx (by omega), fun j x _ => rfl⟩
  · obtain ⟨a, ⟨h1, h2, h3⟩, h4⟩ := H
    refine ⟨_, h4, fun k => ?_, fun i hi => ?_, fun j i hj => ?_⟩
    · simp only [wrI_1, h1]
      by_cases e : k = 7
      · rw [if_pos e, if_pos e, e]
      · rw [if_neg e, if_neg e]
    · rw [wrI_2, h2 i hi]
    · rw [wrI_2, h3 j i hj]
  · intro n a _
    simp (disch := omega) only [f_X0_copyFrom_L2, hc, nI_leI, nI_ltI, nI_eq, nI_add, pk_mul, pk_sub, nI_clamp, ib_nI, if_pos, if_neg, if_true, if_false, eq_self, ob]
  · intro n i a hi ⟨a1, a2, a3⟩
    refine ⟨_, ⟨?_, fun x hx => ?_, fun j x hj => ?_⟩, by simp (disch := omega) only [f_X0_copyFrom_L2, hc, li_1, nI_leI, nI_ltI, nI_eq, nI_add, pk_mul, pk_sub, nI_clamp, ib_nI, if_pos, if_neg, if_true, if_false, eq_self, ob]; rfl⟩
    · rw [wrA_1, a1]
    · by_cases e : x = i
      · subst e
        simp (disch := omega) [wr_at]
      · simp (disch := omega) [wr_at, e, a2 x (by omega)]
    · simp (disch := omega) [wr_at, hj, a3 j x hj]
/-- the same as far as it is used -/
def Same (S T : Mem) (c t q : Nat) : Prop := (∀ k, k < 8 → S.1 k = T.1 k) ∧ (∀ j p, p < c → j < 7 → S.2 j p = T.2 j p) ∧ (∀ j k, k < t → (j = 7 ∨ j = 8) → S.2 j k = T.2 j k) ∧ ∀ k, k < q → S.2 9 k = T.2 9 k
theorem Rel.same {S T : Mem} {f : Nat → Int32} {c t q : Nat} (h : Same S T c t q) (R : Rel T f c t q) : Rel S f c t q := by
  obtain ⟨h1, h2, h3, h4⟩ := h
  obtain ⟨⟨a1, a2, a3, a4⟩, ⟨b1, b2, b3⟩, ⟨c1, c2, c3⟩, ⟨d1, d2, d3, d4⟩, e1, e2, e3⟩ := R
  refine ⟨⟨?_, ?_, a3, a4⟩, ⟨?_, b2, b3⟩, ⟨?_, c2, c3⟩, ⟨?_, ?_, ?_, ?_⟩, fun p hp j hj => ?_, fun k hk => ⟨?_, ?_⟩, fun k hk => ?_⟩
  · rw [h1 1 (by omega), a1]
  · rw [h1 0 (by omega), a2]
  · rw [h1 2 (by omega), b1]
  · rw [h1 7 (by omega), c1]
  · rw [h1 5 (by omega), d1]
  · rw [h1 3 (by omega), d2]
  · rw [h1 4 (by omega), d3]
  · rw [h1 6 (by omega), d4]
  · rw [h2 j p hp hj, e1 p hp j hj]
  · rw [h3 7 k hk (Or.inl rfl), (e2 k hk).1]
  · rw [h3 8 k hk (Or.inr rfl), (e2 k hk).2]
  · rw [h4 k hk, e3 k hk]
theorem TrfOK.same {S T : Mem} {t : Nat} (h1 : S.1 2 = T.1 2) (h3 : ∀ j k, k < t → (j = 7 ∨ j = 8) → S.2 j k = T.2 j k) (I : TrfOK T t) : TrfOK S t := by
  obtain ⟨a1, a2, a3, a4⟩ := I
  have e7 : ∀ k, k < t → thr S k = thr T k := fun k hk => congrArg nv (h3 7 k hk (Or.inl rfl))
  have e8 : ∀ k, k < t → rat S k = rat T k := fun k hk => congrArg nv (h3 8 k hk (Or.inr rfl))
  refine ⟨by rw [h1, a1], a2, fun k hk => ?_, fun k k' hk hk' => ?_⟩
  · rw [e7 k hk, e8 k hk, h3 7 k hk (Or.inl rfl), h3 8 k hk (Or.inr rfl)]
    exact a3 k hk
  · rw [e7 k (by omega), e7 k' hk']
    exact a4 k k' hk hk'
theorem LotsOK.same {S T : Mem} {c : Nat} (h2 : ∀ j p, p < c → j < 7 → S.2 j p = T.2 j p) (I : LotsOK T c) : LotsOK S c := by
  refine ⟨fun p hp => (I.1 p hp).same (fun j hj => h2 j p hp hj), fun p p' hp hp' => ?_⟩
  rw [h2 4 p hp (by omega), h2 4 p' hp' (by omega)]
  exact I.2 p p' hp hp'
theorem QueOK.same {S T : Mem} {c q : Nat} (h2 : ∀ p, p < c → S.2 0 p = T.2 0 p) (h4 : ∀ k, k < q → S.2 9 k = T.2 9 k) (I : QueOK T c q) : QueOK S c q := by
  refine ⟨fun k hk => ?_, fun k k' hk hk' => ?_⟩
  · obtain ⟨p, hp, e⟩ := I.1 k hk
    exact ⟨p, hp, by rw [h2 p hp, h4 k hk, e]⟩
  · rw [h4 k hk, h4 k' hk']
    exact I.2 k k' hk hk'
theorem Inv.same {S T : Mem} {c t q : Nat} (h : Same S T c t q) (I : Inv T c t q) : Inv S c t q := by
  obtain ⟨h1, h2, h3, h4⟩ := h
  obtain ⟨I1, I2, I3, I4⟩ := I
  exact ⟨I1.same h2, I2.same (h1 2 (by omega)) h3, I3.same (fun p hp => h2 0 p hp (by omega)) h4, by rw [h1 3 (by omega)]; exact I4⟩
theorem c_copy (S : Mem) {T : Mem} {f : Nat → Int32} {c t q : Nat} (R : Rel T f c t q) (I : Inv T c t q) : ∃ S', f_X4_copyFrom S T = some S' ∧ Same S' T c t q := by
  obtain ⟨S1, e1, a1, a2, a3⟩ := c_copyLots S R.c1 R.c I.1.1
  obtain ⟨S2, e2, b1, b2, b3⟩ := c_copyTrf S1 R.t1 R.t
  obtain ⟨S3, e3, d1, d2, d3⟩ := c_copyQue S2 R.q1 R.q
  refine ⟨_, by simp only [f_X4_copyFrom, e1, e2, e3, ob]; rfl, fun k hk => ?_, fun j p hp hj => ?_, fun j k hk hj => ?_, fun k hk => ?_⟩
  · simp only [wrI_1, d1, b1, a1]
    by_cases k6 : k = 6
    · rw [if_pos k6, k6]
    · by_cases k5 : k = 5
      · rw [if_neg k6, if_pos k5, k5]
      · by_cases k4 : k = 4
        · rw [if_neg k6, if_neg k5, if_pos k4, k4]
        · by_cases k3 : k = 3
          · rw [if_neg k6, if_neg k5, if_neg k4, if_pos k3, k3]
          · rw [if_neg k6, if_neg k5, if_neg k4, if_neg k3]
            by_cases k7 : k = 7
            · rw [if_pos k7]
            · by_cases k2 : k = 2
              · rw [if_neg k7, if_pos k2]
              · rw [if_neg k7, if_neg k2, if_pos (by omega)]
  · simp only [wrI_2]
    rw [d3 j p (by omega), b3 j p (by omega) (by omega), a2 j p hp hj]
  · simp only [wrI_2]
    rw [d3 j k (by omega), b2 j k hk hj]
  · simp only [wrI_2]
    rw [d2 k hk]
