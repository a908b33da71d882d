/-! the changes: a good state stays good; what they do to ids, coins, queue -/
def Mild (S S' : Mem) : Prop := S'.1 0 = S.1 0 ∧ S'.1 1 = S.1 1 ∧ S'.1 3 = S.1 3 ∧ S'.1 4 = S.1 4 ∧ S'.2 0 = S.2 0
theorem Mild.rf (S : Mem) : Mild S S := ⟨rfl, rfl, rfl, rfl, rfl⟩
theorem Mild.tr {S S1 S2 : Mem} (h : Mild S S1) (g : Mild S1 S2) : Mild S S2 := ⟨g.1.trans h.1, g.2.1.trans h.2.1, g.2.2.1.trans h.2.2.1, g.2.2.2.1.trans h.2.2.2.1, g.2.2.2.2.trans h.2.2.2.2⟩
theorem Mild.asc {S S' : Mem} {c : Nat} (h : Mild S S') (A : Asc S c) : Asc S' c := by
  unfold Asc at *
  rw [h.2.2.2.2, h.2.1]
  exact A
theorem mild_seal {S S' : Mem} {x r : Int32} (h : f_X4_sealLot S x = some (r, S')) : Mild S S' := by
  unfold f_X4_sealLot at h
  obtain ⟨r1, -, h⟩ := bd h
  repeat' split at h
  all_goals first
    | (obtain ⟨r9, -, h⟩ := bd h; cases h; exact ⟨rfl, rfl, rfl, rfl, rfl⟩)
    | (cases h; exact Mild.rf _)
    | (cases h)
theorem mild_open {S S' : Mem} {x r : Int32} (h : f_X4_openLot S x = some (r, S')) : Mild S S' := by
  unfold f_X4_openLot at h
  obtain ⟨r1, -, h⟩ := bd h
  repeat' split at h
  all_goals first
    | (obtain ⟨r9, -, h⟩ := bd h; cases h; exact ⟨rfl, rfl, rfl, rfl, rfl⟩)
    | (cases h; exact Mild.rf _)
    | (cases h)
theorem mild_wet {S S' : Mem} {x r : Int32} (h : f_X4_wetLot S x = some (r, S')) : Mild S S' := by
  unfold f_X4_wetLot at h
  obtain ⟨r1, -, h⟩ := bd h
  repeat' split at h
  all_goals first
    | (obtain ⟨r9, -, h⟩ := bd h; cases h; exact ⟨rfl, rfl, rfl, rfl, rfl⟩)
    | (cases h; exact Mild.rf _)
    | (cases h)
theorem mild_move {S S' : Mem} {x y r : Int32} (h : f_X4_moveLot S x y = some (r, S')) : Mild S S' := by
  unfold f_X4_moveLot at h
  obtain ⟨r1, -, h⟩ := bd h
  split at h
  · obtain ⟨r4, -, h⟩ := bd h
    split at h
    · cases h
      exact Mild.rf _
    · obtain ⟨r7, -, h⟩ := bd h
      repeat' split at h
      all_goals first
        | (cases h; exact ⟨rfl, rfl, rfl, rfl, rfl⟩)
        | (cases h)
  · cases h
    exact Mild.rf _
theorem mild_join {S S' : Mem} {x r : Int32} (h : f_X4_queueLot S x = some (r, S')) : Mild S S' := by
  unfold f_X4_queueLot at h
  obtain ⟨r1, -, h⟩ := bd h
  split at h
  · obtain ⟨⟨r4, S5⟩, h4, h⟩ := bd h
    cases h
    unfold f_X0_append at h4
    split at h4
    · cases h4
      exact Mild.rf _
    · obtain ⟨r2, -, h4⟩ := bd h4
      repeat' split at h4
      all_goals first
        | (cases h4; exact ⟨rfl, rfl, rfl, rfl, rfl⟩)
        | (cases h4)
  · cases h
    exact Mild.rf _
def TrM (S T : Mem) : Prop := (∀ k, k ≠ 2 → T.1 k = S.1 k) ∧ ∀ j, j ≠ 7 → j ≠ 8 → T.2 j = S.2 j
theorem TrM.rf (S : Mem) : TrM S S := ⟨fun _ _ => rfl, fun _ _ _ => rfl⟩
theorem TrM.tr {S T U : Mem} (h : TrM S T) (g : TrM T U) : TrM S U := ⟨fun k a => (g.1 k a).trans (h.1 k a), fun j a b => (g.2 j a b).trans (h.2 j a b)⟩
theorem TrM.mild {S T : Mem} (h : TrM S T) : Mild S T := ⟨h.1 0 (by omega), h.1 1 (by omega), h.1 3 (by omega), h.1 4 (by omega), h.2 0 (by omega) (by omega)⟩
theorem TrM.two (S : Mem) (i x y : Int32) : TrM S (wrA (wrA S 7 i x) 8 i y) := ⟨fun _ _ => rfl, fun j a b => by
  show (if j = 8 then _ else if j = 7 then _ else S.2 j) = S.2 j
  rw [if_neg b, if_neg a]⟩
theorem TrM.num (S : Mem) (v : Int32) : TrM S (wrI S 2 v) := ⟨fun k hk => by rw [wrI_1, if_neg hk], fun _ _ _ => rfl⟩
theorem ins_loop {x1 x2 : Int32} {k : Int32 → Mem → Option (Int32 × Mem)} {z : Int32 × Mem} : ∀ (n : Nat) (x3 : Int32) (S : Mem), f_X5_insert_L52 x1 x2 k n x3 S = some z → ∃ y T, k y T = some z ∧ TrM S T := by
  intro n
  induction n with
  | zero => intro x3 S h; cases h
  | succ n ih =>
    intro x3 S h
    rw [f_X5_insert_L52] at h
    split at h
    · exact ⟨x3, S, h, TrM.rf S⟩
    · split at h
      · split at h
        · exact ⟨x3, S, h, TrM.rf S⟩
        · repeat' split at h
          all_goals first
            | (obtain ⟨y, T, h1, h2⟩ := ih _ _ h; exact ⟨y, T, h1, (TrM.two S _ _ _).tr h2⟩)
            | (cases h)
      · cases h
theorem rem_loop {x3 : Int32} {k : Mem → Option (Int32 × Mem)} {z : Int32 × Mem} : ∀ (n : Nat) (x4 : Int32) (S : Mem), f_X5_remove_L22 x3 k n x4 S = some z → ∃ T, k T = some z ∧ TrM S T := by
  intro n
  induction n with
  | zero => intro x4 S h; cases h
  | succ n ih =>
    intro x4 S h
    rw [f_X5_remove_L22] at h
    split at h
    · exact ⟨S, h, TrM.rf S⟩
    · repeat' split at h
      all_goals first
        | (obtain ⟨T, h1, h2⟩ := ih _ _ h; exact ⟨T, h1, (TrM.two S _ _ _).tr h2⟩)
        | (cases h)
theorem mild_step {S S' : Mem} {x y r : Int32} (h : f_X5_insert S x y = some (r, S')) : Mild S S' := by
  unfold f_X5_insert at h
  by_cases c1 : x < 0
  · rw [if_pos c1] at h
    cases h
    exact Mild.rf _
  rw [if_neg c1] at h
  by_cases c2 : 9999 < x
  · rw [if_pos c2] at h
    cases h
    exact Mild.rf _
  rw [if_neg c2] at h
  by_cases c3 : y < 0
  · rw [if_pos c3] at h
    cases h
    exact Mild.rf _
  rw [if_neg c3] at h
  by_cases c4 : y ≤ 100
  · rw [if_pos c4] at h
    obtain ⟨r5, -, h⟩ := bd h
    by_cases c5 : r5 < 0
    · rw [if_pos c5] at h
      by_cases c6 : S.1 2 < 6
      · rw [if_pos c6] at h
        obtain ⟨y9, T, h1, h2⟩ := ins_loop _ _ _ h
        repeat' split at h1
        all_goals first
          | (cases h1; exact (h2.tr ((TrM.two T _ _ _).tr (TrM.num _ _))).mild)
          | (cases h1)
      · rw [if_neg c6] at h
        cases h
        exact Mild.rf _
    · rw [if_neg c5] at h
      cases h
      exact Mild.rf _
  · rw [if_neg c4] at h
    cases h
    exact Mild.rf _
theorem mild_unstep {S S' : Mem} {x r : Int32} (h : f_X5_remove S x = some (r, S')) : Mild S S' := by
  unfold f_X5_remove at h
  obtain ⟨r1, -, h⟩ := bd h
  split at h
  · split at h
    · obtain ⟨T, h1, h2⟩ := rem_loop _ _ _ h
      cases h1
      exact (h2.tr (TrM.num _ _)).mild
    · cases h
  · cases h
    exact Mild.rf _
theorem add_form {S S' : Mem} {x1 x2 x3 x4 r : Int32} (h : f_X4_takeIn S x1 x2 x3 x4 = some (r, S')) : S' = S ∨ (S'.1 0 = S.1 0 + 1 ∧ S'.1 1 = S.1 1 + 1 ∧ S'.1 3 = S.1 3 ∧ S'.1 4 = S.1 4 ∧ S'.2 0 = upd (S.2 0) (S.1 0).toNatClampNeg (S.1 1)) := by
  unfold f_X4_takeIn at h
  obtain ⟨r1, -, h⟩ := bd h
  split at h
  · cases h
    exact Or.inl rfl
  · repeat' split at h
    all_goals obtain ⟨r2, -, h⟩ := bd h
    all_goals repeat' split at h
    all_goals first
      | (cases h; exact Or.inl rfl)
      | skip
    obtain ⟨r40, -, h⟩ := bd h
    split at h
    · obtain ⟨⟨r43, S44⟩, h4, h⟩ := bd h
      cases h
      unfold f_X3_append at h4
      repeat' split at h4
      all_goals first
        | (cases h4; exact Or.inr ⟨rfl, rfl, rfl, rfl, rfl⟩)
        | (cases h4; exact Or.inl rfl)
        | (cases h4)
    · cases h
      exact Or.inl rfl
theorem coins_form {S S' : Mem} {x r : Int32} (h : f_X4_takeCoins S x = some (r, S')) : S' = S ∨ S' = wrI S 3 (S.1 3 + x) := by
  unfold f_X4_takeCoins at h
  repeat' split at h
  all_goals first
    | (cases h; exact Or.inr rfl)
    | (cases h; exact Or.inl rfl)
/-- the lots of S' are lots of S, in their order; their numbers may have fallen -/
def SubD (S' S : Mem) (c' c : Nat) : Prop := ∃ σ : Nat → Nat, (∀ p, p < c' → σ p < c) ∧ (∀ p p', p < p' → p' < c' → σ p < σ p') ∧ ∀ p, p < c' → ∀ j, j < 7 → j ≠ 2 → S'.2 j p = S.2 j (σ p)
theorem SubD.rf (S : Mem) (c : Nat) : SubD S S c c := ⟨id, fun _ h => h, fun _ _ h _ => h, fun _ _ _ _ _ => rfl⟩
theorem SubD.tr {S2 S1 S : Mem} {c2 c1 c : Nat} (h : SubD S2 S1 c2 c1) (g : SubD S1 S c1 c) : SubD S2 S c2 c := by
  obtain ⟨σ, a1, a2, a3⟩ := h
  obtain ⟨τ, b1, b2, b3⟩ := g
  exact ⟨fun p => τ (σ p), fun p hp => b1 _ (a1 p hp), fun p p' h1 h2 => b2 _ _ (a2 p p' h1 h2) (a1 p' h2), fun p hp j hj h2 => (a3 p hp j hj h2).trans (b3 _ (a1 p hp) j hj h2)⟩
theorem SubD.asc {S' S : Mem} {c' c : Nat} (h : SubD S' S c' c) (e : S'.1 1 = S.1 1) (A : Asc S c) : Asc S' c' := by
  obtain ⟨σ, a1, a2, a3⟩ := h
  refine ⟨fun p p' h1 h2 => ?_, fun p hp => ?_⟩
  · rw [a3 p (by omega) 0 (by omega) (by omega), a3 p' h2 0 (by omega) (by omega)]
    exact A.1 _ _ (a2 p p' h1 h2) (a1 p' h2)
  · rw [a3 p hp 0 (by omega) (by omega), e]
    exact A.2 _ (a1 p hp)
theorem Left.sub {S S' : Mem} {c q p : Nat} (h : Left S S' c q p) : SubD S' S (c - 1) c :=
  ⟨fun i => if i < p then i else i + 1, fun i hi => by show (if i < p then i else i + 1) < c; split <;> omega, fun i i' h1 h2 => by show (if i < p then i else i + 1) < (if i' < p then i' else i' + 1); split <;> split <;> omega, fun i hi j hj _ => h.2.1 j i hi hj⟩
/-- one lot less in a world where only its own number fell -/
theorem dayC {D : Nat → Prop} {x : Int32} (hx : ∀ b, b < 24 → (bt x b = true ↔ D b)) (kC : Mem → Option Mem) :
    ∀ (i n : Nat) (S : Mem) (c t q : Nat), i < n → i ≤ c → (S.1 0 = nI c ∧ c ≤ 16) → (S.1 7 = nI q ∧ q ≤ 16) → Inv S c t q →
      ∃ S' g c' q', f_X4_letOneDayPass_L26 x kC n (nI i - 1) S = kC S' ∧ (S'.1 0 = nI c' ∧ c' ≤ 16) ∧ (S'.1 7 = nI q' ∧ q' ≤ 16) ∧ Inv S' c' t q' ∧ SubD S' S c' c ∧ (∀ k, k ≠ 0 → k ≠ 6 → k ≠ 7 → S'.1 k = S.1 k) ∧ S'.1 6 = S.1 6 + nI g ∧ g + c' = c := by
  intro i
  induction i with
  | zero =>
    intro n S c t q hn hi h0 h7 I
    obtain ⟨n', rfl⟩ : ∃ n', n = n' + 1 := ⟨n - 1, by omega⟩
    have e1 : nI 0 - 1 < 0 := by decide
    exact ⟨S, 0, c, q, by rw [f_X4_letOneDayPass_L26, if_pos e1], h0, h7, I, SubD.rf S c, fun _ _ _ _ => rfl, (Int32.add_zero _).symm, Nat.zero_add c⟩
  | succ i ih =>
    intro n S c t q hn hi h0 h7 I
    obtain ⟨n', rfl⟩ : ∃ n', n = n' + 1 := ⟨n - 1, by omega⟩
    obtain ⟨c1, hc⟩ := h0
    obtain ⟨q1, hq⟩ := h7
    rw [nI_pred]
    obtain ⟨l1, l2, l3, l4, l5, l6, l7⟩ := I.1.1 i (by omega)
    obtain ⟨b, _, hb, eb⟩ := l4
    obtain ⟨k, hk1, hk, ek⟩ := l2
    have ih0 : ¬ nI i < 0 := nI_pos (by omega)
    have ihb : ib (nI i) 16 = true := ib_nI (by omega) (by omega)
    have icl : (nI i).toNatClampNeg = i := nI_clamp (by omega)
    have hB := hb_ok x (b := b) (by omega)
    by_cases hD : D b
    · have hbt := (hx b (by omega)).mpr hD
      rw [if_pos hbt] at hB
      have hkk : nI k - 1 = nI (k - 1) := by rw [li_1, pk_sub hk1]
      have cA : (wrA S 2 (nI i) (nI (k - 1))).2 2 i = nI (k - 1) := by rw [wr_at _ _ (by omega), if_pos ⟨rfl, rfl⟩]
      have sA : SubD (wrA S 2 (nI i) (nI (k - 1))) S c c := ⟨id, fun _ h => h, fun _ _ h _ => h, fun p _ j _ h2 => by rw [wr_at _ _ (by omega), if_neg (fun z => h2 z.1)]; rfl⟩
      by_cases hk0 : k = 1
      · have Q1 : QueOK (wrA S 2 (nI i) (nI (k - 1))) c q := QueOK.same (T := S) (fun p _ => by rw [wr_at _ _ (by omega), if_neg (by omega)]) (fun p _ => by rw [wr_at _ _ (by omega), if_neg (by omega)]) I.2.2.1
        have L1 : ∀ p', p' < c → p' ≠ i → lotOK (wrA S 2 (nI i) (nI (k - 1))) p' := fun p' hp' hne => (I.1.1 p' hp').same (fun j _ => by rw [wr_at _ _ (by omega), if_neg (by omega)])
        obtain ⟨S2, f1, f3⟩ := lv_c (S := wrA S 2 (nI i) (nI (k - 1))) (p := i) c1 hc q1 hq Q1 (by omega) (fun p' h1 h2 => L1 p' h2 (by omega))
        have I2 := f3.ok (by omega) hc hq L1 (fun x y hx hy e => I.1.2 x y hx hy (by
          rw [wr_at _ _ (by omega), if_neg (by omega), wr_at _ _ (by omega), if_neg (by omega)] at e
          exact e)) (TrfOK.same (T := S) rfl (fun j k _ hj => by rw [wr_at _ _ (by omega), if_neg (by omega)]) I.2.1) Q1 I.2.2.2
        have g0 : S2.1 0 = nI (c - 1) := by rw [f3.1, if_pos rfl]
        have g7 := f3.1 7
        rw [if_neg (by omega), if_pos rfl] at g7
        have g6 : S2.1 6 = S.1 6 := by rw [f3.1, if_neg (by omega), if_neg (by omega)]; rfl
        obtain ⟨S', g', c', q', a1, a2, a3, a4, a5, a6, a7, a8⟩ := ih n' (wrI S2 6 (S2.1 6 + 1)) (c - 1) t _ (by omega) (by omega) ⟨g0, by omega⟩ ⟨g7, by split <;> omega⟩ (I2.num (by omega) (fun h => absurd h (by omega)))
        refine ⟨S', g' + 1, c', q', ?_, a2, a3, a4, (show SubD S' S2 c' (c - 1) from a5).tr (f3.sub.tr sA), fun k h1 h2 h3 => ?_, ?_, by omega⟩
        · rw [← a1, f_X4_letOneDayPass_L26, if_neg ih0, if_pos ihb, icl, eb, hB, ob, if_neg (by decide), if_pos ihb, if_pos ihb, if_pos ihb, ek, hkk, cA, if_neg (by rw [hk0]; decide), f1, ob, addm1]
        · rw [a6 k h1 h2 h3, wrI_1, if_neg h2, f3.1, if_neg h1, if_neg h3]
          rfl
        · rw [a7, wrI_1, if_pos rfl, g6, Int32.add_assoc, li_1, nI_add, Nat.add_comm]
      · have I1 : Inv (wrA S 2 (nI i) (nI (k - 1))) c t q := by
          refine I.set hc (by omega) (by omega) (by omega) ?_ (fun h => absurd h (by omega))
          unfold lotOK
          simp (disch := omega) only [wr_at]
          exact ⟨l1, ⟨k - 1, by omega, by omega, rfl⟩, l3, ⟨b, by omega, hb, eb⟩, l5, l6, l7⟩
        obtain ⟨S', g', c', q', a1, a2, a3, a4, a5, a6, a7, a8⟩ := ih n' (wrA S 2 (nI i) (nI (k - 1))) c t q (by omega) (by omega) ⟨c1, hc⟩ ⟨q1, hq⟩ I1
        have kp : 0 < nI (k - 1) := by rw [li_0, nI_ltI (by omega) (by omega)]; omega
        refine ⟨S', g', c', q', ?_, a2, a3, a4, a5.tr sA, fun k h1 h2 h3 => a6 k h1 h2 h3, a7, a8⟩
        rw [← a1, f_X4_letOneDayPass_L26, if_neg ih0, if_pos ihb, icl, eb, hB, ob, if_neg (by decide), if_pos ihb, if_pos ihb, if_pos ihb, ek, hkk, cA, if_pos kp, addm1]
    · have hbt : ¬ bt x b = true := fun h => hD ((hx b (by omega)).mp h)
      rw [if_neg hbt] at hB
      obtain ⟨S', g', c', q', a1, a2, a3, a4, a5, a6, a7, a8⟩ := ih n' S c t q (by omega) (by omega) ⟨c1, hc⟩ ⟨q1, hq⟩ I
      refine ⟨S', g', c', q', ?_, a2, a3, a4, a5, a6, a7, a8⟩
      rw [← a1, f_X4_letOneDayPass_L26, if_neg ih0, if_pos ihb, icl, eb, hB, ob, if_pos rfl, addm1]
