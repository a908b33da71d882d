/-! one day, many days, class and model -/
theorem addm1 (x : Int32) : x + (-1) = x - 1 := (Int32.sub_eq_add_neg x 1).symm
theorem wrI_wrI (S : Mem) (k : Nat) (v w : Int32) : wrI (wrI S k v) k w = wrI S k w := by
  refine Prod.ext (funext fun j => ?_) rfl
  show (if j = k then w else if j = k then v else S.1 j) = if j = k then w else S.1 j
  by_cases e : j = k
  · rw [if_pos e, if_pos e]
  · rw [if_neg e, if_neg e, if_neg e]
theorem day_loop {D : Nat → Prop} {x d : Int32} {N t : Nat} (hx : ∀ b, b < 24 → (bt x b = true ↔ D b)) (kC : Mem → Option Mem) (kM : Int32 → Mem → Option (Int32 × Mem)) :
    ∀ (i n m : Nat) (S M : Mem) (g c q : Nat), i < n → i < m → i ≤ c → Rel (wrI S 6 d) (M.2 0) c t q → Inv S c t q → IdOK S c N → S.1 6 = d + nI g → (∀ b, b < 24 → (D b → M.2 8 b = 1) ∧ (¬ D b → M.2 8 b = 0)) →
      ∃ S' M' g' c' q', f_X4_letOneDayPass_L26 x kC n (nI i - 1) S = kC S' ∧ f_X7_oneDay_L156 kM m (nI g) (nI i - 1) M = kM (nI g') M' ∧ Rel (wrI S' 6 d) (M'.2 0) c' t q' ∧ Inv S' c' t q' ∧ IdOK S' c' N ∧ S'.1 6 = d + nI g' ∧ g' + c' = g + c ∧ M'.1 = M.1 ∧ ∀ j y, j ≠ 0 → M'.2 j y = M.2 j y := by
  intro i
  induction i with
  | zero =>
    intro n m S M g c q hn hm hi R I D hd hW
    obtain ⟨n', rfl⟩ : ∃ n', n = n' + 1 := ⟨n - 1, by omega⟩
    obtain ⟨m', rfl⟩ : ∃ m', m = m' + 1 := ⟨m - 1, by omega⟩
    have e1 : nI 0 - 1 < 0 := by decide
    exact ⟨S, M, g, c, q, by rw [f_X4_letOneDayPass_L26, if_pos e1], by rw [f_X7_oneDay_L156, if_pos e1], R, I, D, hd, rfl, rfl, fun _ _ _ => rfl⟩
  | succ i ih =>
    intro n m S M g c q hn hm hi R I Dd hd hW
    obtain ⟨n', rfl⟩ : ∃ n', n = n' + 1 := ⟨n - 1, by omega⟩
    obtain ⟨m', rfl⟩ : ∃ m', m = m' + 1 := ⟨m - 1, by omega⟩
    have hc := R.c
    have hq := R.q
    rw [nI_pred]
    obtain ⟨l1, l2, l3, l4, l5, l6, l7⟩ := I.1.1 i (by omega)
    obtain ⟨b, _, hb, eb⟩ := l4
    obtain ⟨k, hk1, hk, ek⟩ := l2
    have ih0 : ¬ nI i < 0 := nI_pos (by omega)
    have ihb : ib (nI i) 16 = true := ib_nI (by omega) (by omega)
    have icl : (nI i).toNatClampNeg = i := nI_clamp (by omega)
    have hB := hb_ok x (b := b) (by omega)
    have o4 : f_X7_of M (nI i) 4 = some (nI b) := by rw [li_4, m_of M (by omega), R.at (by omega) (by omega)]; exact congrArg some eb
    have o2 : f_X7_of M (nI i) 2 = some (nI k) := by rw [li_2, m_of M (by omega), R.at (by omega) (by omega)]; exact congrArg some ek
    have bcl : (nI b).toNatClampNeg = b := nI_clamp (by omega)
    have bib : ib (nI b) 24 = true := ib_nI (by omega) (by omega)
    by_cases hD : D b
    · have hbt := (hx b (by omega)).mpr hD
      have hw1 := (hW b (by omega)).1 hD
      rw [if_pos hbt] at hB
      have hkk : nI k - 1 = nI (k - 1) := by rw [li_1, pk_sub hk1]
      have R1 : Rel (wrI (wrA S 2 (nI i) (nI (k - 1))) 6 d) ((wrA M 0 (nI (8 + 7 * i + 2)) (nI (k - 1))).2 0) c t q := R.set (p := i) (j := 2) (by omega) (by omega) (nI (k - 1))
      have D1 : IdOK (wrA S 2 (nI i) (nI (k - 1))) c N := Dd.set (by omega) (by omega)
      have os : f_X7_sets M (nI i) 2 (nI (k - 1)) = some (wrA M 0 (nI (8 + 7 * i + 2)) (nI (k - 1))) := by rw [li_2]; exact m_sets M _ (by omega)
      have o2' : f_X7_of (wrA M 0 (nI (8 + 7 * i + 2)) (nI (k - 1))) (nI i) 2 = some (nI (k - 1)) := by rw [li_2, m_of _ (by omega), wr_at _ _ (by omega), if_pos ⟨rfl, rfl⟩]
      have cA : (wrA S 2 (nI i) (nI (k - 1))).2 2 i = nI (k - 1) := by rw [wr_at _ _ (by omega), if_pos ⟨rfl, rfl⟩]
      have hW1 : ∀ b, b < 24 → (D b → (wrA M 0 (nI (8 + 7 * i + 2)) (nI (k - 1))).2 8 b = 1) ∧ (¬ D b → (wrA M 0 (nI (8 + 7 * i + 2)) (nI (k - 1))).2 8 b = 0) := fun b hb => by
        rw [wr_same _ _ _ _ _ _ (by omega)]
        exact hW b hb
      by_cases hk0 : k = 1
      · have Q1 : QueOK (wrA S 2 (nI i) (nI (k - 1))) c q := QueOK.same (T := S) (fun p _ => by rw [wr_at _ _ (by omega), if_neg (by omega)]) (fun p _ => by rw [wr_at _ _ (by omega), if_neg (by omega)]) I.2.2.1
        have L1 : ∀ p', p' < c → p' ≠ i → lotOK (wrA S 2 (nI i) (nI (k - 1))) p' := fun p' hp' hne => (I.1.1 p' hp').same (fun j _ => by rw [wr_at _ _ (by omega), if_neg (by omega)])
        obtain ⟨S2, M2, f1, f2, f3, f4, f5, f6⟩ := lv6 R1 Q1 (p := i) (by omega) (fun p' h1 h2 => L1 p' h2 (by omega))
        have I2 := f3.ok (by omega) R.c R.q L1 (fun x y hx hy e => I.1.2 x y hx hy (by
          rw [wr_at _ _ (by omega), if_neg (by omega), wr_at _ _ (by omega), if_neg (by omega)] at e
          exact e)) (TrfOK.same (T := S) rfl (fun j k _ hj => by rw [wr_at _ _ (by omega), if_neg (by omega)]) I.2.1) Q1 I.2.2.2
        have D2 : IdOK S2 (c - 1) N := ⟨by rw [f3.1]; exact D1.1, fun p' hp' => by
          rw [f3.2.1 0 p' hp' (by omega)]
          exact D1.2 _ (by split <;> omega)⟩
        have hd2 : S2.1 6 = d + nI g := by
          rw [f3.1]
          exact hd
        obtain ⟨S', M', g', c', q', a1, a2, a3, a4, a5, a6, a7, a8, a9⟩ := ih n' m' (wrI S2 6 (S2.1 6 + 1)) M2 (g + 1) (c - 1) _ (by omega) (by omega) (by omega) (by rw [wrI_wrI]; exact f4) (I2.num (by omega) (fun h => absurd h (by omega))) (D2.num (by omega)) (by rw [wrI_1, if_pos rfl, hd2, Int32.add_assoc, li_1, nI_add]) (fun b hb => by rw [f6 8 b (by omega)]; exact hW1 b hb)
        refine ⟨S', M', g', c', q', ?_, ?_, a3, a4, a5, a6, by omega, by rw [a8, f5]; rfl, fun j y hj => by rw [a9 j y hj, f6 j y hj, wr_same _ _ _ _ _ _ hj]⟩
        · rw [← a1, f_X4_letOneDayPass_L26, if_neg ih0, if_pos ihb, icl, eb, hB, ob, if_neg (by decide), if_pos ihb, if_pos ihb, if_pos ihb, ek, hkk, cA, if_neg (by rw [hk0]; decide), f1, ob, addm1]
        · rw [← a2, f_X7_oneDay_L156, if_neg ih0, o4, ob, if_pos bib, bcl, hw1, if_neg (by decide), o2, ob, hkk, os, ob, o2', ob, if_pos (by rw [hk0]; decide), f2, ob, addm1, li_1, nI_add]
      · have I1 : Inv (wrA S 2 (nI i) (nI (k - 1))) c t q := by
          refine I.set R.c (by omega) (by omega) (by omega) ?_ (fun h => absurd h (by omega))
          unfold lotOK
          simp (disch := omega) only [wr_at]
          exact ⟨l1, ⟨k - 1, by omega, by omega, rfl⟩, l3, ⟨b, by omega, hb, eb⟩, l5, l6, l7⟩
        obtain ⟨S', M', g', c', q', a1, a2, a3, a4, a5, a6, a7, a8, a9⟩ := ih n' m' _ _ g c q (by omega) (by omega) (by omega) R1 I1 D1 hd hW1
        have kp : 0 < nI (k - 1) := by rw [li_0, nI_ltI (by omega) (by omega)]; omega
        have kn : ¬ nI (k - 1) ≤ 0 := by rw [li_0, nI_leI (by omega) (by omega)]; omega
        refine ⟨S', M', g', c', q', ?_, ?_, a3, a4, a5, a6, a7, by rw [a8]; rfl, fun j y hj => by rw [a9 j y hj, wr_same _ _ _ _ _ _ hj]⟩
        · rw [← a1, f_X4_letOneDayPass_L26, if_neg ih0, if_pos ihb, icl, eb, hB, ob, if_neg (by decide), if_pos ihb, if_pos ihb, if_pos ihb, ek, hkk, cA, if_pos kp, addm1]
        · rw [← a2, f_X7_oneDay_L156, if_neg ih0, o4, ob, if_pos bib, bcl, hw1, if_neg (by decide), o2, ob, hkk, os, ob, o2', ob, if_neg kn, addm1]
    · have hbt : ¬ bt x b = true := fun h => hD ((hx b (by omega)).mp h)
      have hw0 := (hW b (by omega)).2 hD
      rw [if_neg hbt] at hB
      obtain ⟨S', M', g', c', q', a1, a2, a3, a4, a5, a6, a7, a8, a9⟩ := ih n' m' S M g c q (by omega) (by omega) (by omega) R I Dd hd hW
      refine ⟨S', M', g', c', q', ?_, ?_, a3, a4, a5, a6, a7, a8, a9⟩
      · rw [← a1, f_X4_letOneDayPass_L26, if_neg ih0, if_pos ihb, icl, eb, hB, ob, if_pos rfl, addm1]
      · rw [← a2, f_X7_oneDay_L156, if_neg ih0, o4, ob, if_pos bib, bcl, hw0, if_pos rfl, addm1]
theorem one_day {S M : Mem} {N : Nat} (s : St N S (M.2 0)) : ∃ S' M' g, f_X4_letOneDayPass S = some S' ∧ f_X7_oneDay M = some (nI g, M') ∧ g ≤ 16 ∧ St N S' (M'.2 0) ∧ S'.1 6 = S.1 6 + nI g ∧ M'.1 = M.1 ∧ ∀ j y, j ≠ 0 → j ≠ 8 → M'.2 j y = M.2 j y := by
  obtain ⟨c, t, q, R, I, D⟩ := s
  have hc := R.c
  obtain ⟨x, x1, x2⟩ := c_baysOfDamp R.c1 R.c I.1
  obtain ⟨S1, s1, s2⟩ := c_spread R.c1 R.c I.1 x2
  let kM := fun (y68_1 : Int32) (M_68 : Mem) =>
          if ib 3 148 = true then
          if ib 3 148 = true then
          if ib 6 148 = true then
          if ib 6 148 = true then
          some (y68_1, (wrA (wrA M_68 0 3 ((M_68.2 0 (Int32.toNatClampNeg 3)) + 1)) 0 6 (((wrA M_68 0 3 ((M_68.2 0 (Int32.toNatClampNeg 3)) + 1)).2 0 (Int32.toNatClampNeg 6)) + y68_1)))
          else none
          else none
          else none
          else none
  let k2 := fun (M_52 : Mem) => if ib 1 148 = true then f_X7_oneDay_L156 kM 40 0 ((M_52.2 0 (Int32.toNatClampNeg 1)) - 1) M_52 else none
  obtain ⟨M1, m1, m2, m3, m4⟩ := m_was R I.1 (fun M_11 => f_X7_oneDay_L59 k2 40 0 M_11)
  have R1 : Rel S (M1.2 0) c t q := by
    have : M1.2 0 = M.2 0 := funext fun y => m3 0 y (by omega)
    rw [this]
    exact R
  obtain ⟨M2, n1, n2, n3, n4⟩ := m_spread R1 I.1 m4 k2
  have R2 := n4 S1 s2
  have L2 := s2.lots I.1
  have I2 : Inv S1 c t q := ⟨L2, TrfOK.same (T := S) (by rw [s2.1]) (fun j k _ hj => s2.2.1 j k (by omega)) I.2.1, I.2.2.1.same (fun p _ => s2.2.1 0 p (by omega)) (fun p _ => s2.2.1 9 p (by omega)), by rw [s2.1]; exact I.2.2.2⟩
  have D2 : IdOK S1 c N := IdOK.same (T := S) (by rw [s2.1]) (fun p _ => s2.2.1 0 p (by omega)) D
  have R3 : Rel (wrI S1 6 (S.1 6)) (M2.2 0) c t q := by
    have : wrI S1 6 (S.1 6) = S1 := by
      refine Prod.ext (funext fun j => ?_) rfl
      show (if j = 6 then S.1 6 else S1.1 j) = S1.1 j
      by_cases e : j = 6
      · rw [if_pos e, e, s2.1]
      · rw [if_neg e]
    rw [this]
    exact R2
  obtain ⟨S3, M3, g, c', q', a1, a2, a3, a4, a5, a6, a7, a8, a9⟩ := day_loop (N := N) x2 (fun S_16 => some (wrI S_16 5 ((S_16.1 5) + 1))) kM c 40 40 S1 M2 0 c q (by omega) (by omega) (Nat.le_refl c) R3 I2 D2 (by rw [s2.1]; exact (Int32.add_zero _).symm) (fun b hb => by rw [n3 8 b (by omega)]; exact m4 b hb)
  have e3 : M3.2 0 3 = S3.1 5 := a3.nums.1
  have e6 : M3.2 0 6 = S.1 6 := a3.nums.2.2.2
  have R4 := (a3.num (k := 5) (i := 3) (by omega) (S3.1 5 + 1)).num (k := 6) (i := 6) (by omega) (S3.1 6)
  have eS : wrI (wrI (wrI S3 6 (S.1 6)) 5 (S3.1 5 + 1)) 6 (S3.1 6) = wrI S3 5 (S3.1 5 + 1) := by
    refine Prod.ext (funext fun j => ?_) rfl
    show (if j = 6 then S3.1 6 else if j = 5 then S3.1 5 + 1 else if j = 6 then S.1 6 else S3.1 j) = if j = 5 then S3.1 5 + 1 else S3.1 j
    by_cases e : j = 6
    · rw [if_pos e, if_neg (by omega), e]
    · rw [if_neg e, if_neg e]
  rw [eS] at R4
  refine ⟨wrI S3 5 (S3.1 5 + 1), wrA (wrA M3 0 (nI 3) (S3.1 5 + 1)) 0 (nI 6) (S3.1 6), g, ?_, ?_, by omega, ⟨c', t, q', R4, a4.num (by omega) (fun h => absurd h (by omega)), a5.num (by omega)⟩, ?_, ?_, fun j y h0 h8 => ?_⟩
  · have hc1 : S1.1 0 = nI c := R2.c1
    rw [f_X4_letOneDayPass, x1, ob, s1, ob, hc1, a1]
  · have h1 : f_X7_oneDay M = f_X7_oneDay_L2 (fun M_3 => f_X7_oneDay_L23 (fun M_11 => f_X7_oneDay_L59 k2 40 0 M_11) 40 0 M_3) 40 0 M := rfl
    have hk2 : k2 M2 = f_X7_oneDay_L156 kM 40 (nI 0) (nI c - 1) M2 := by
      have i1 : ib 1 148 = true := by decide +kernel
      have c1 : Int32.toNatClampNeg 1 = 1 := by decide +kernel
      show (if ib 1 148 = true then f_X7_oneDay_L156 kM 40 0 ((M2.2 0 (Int32.toNatClampNeg 1)) - 1) M2 else none) = _
      rw [if_pos i1, c1, R2.c2]
      rfl
    rw [h1, m1, n1, hk2, a2]
    have i3 : ib 3 148 = true := by decide +kernel
    have i6 : ib 6 148 = true := by decide +kernel
    have c3 : Int32.toNatClampNeg 3 = 3 := by decide +kernel
    have c6 : Int32.toNatClampNeg 6 = 6 := by decide +kernel
    show (if ib 3 148 = true then if ib 3 148 = true then if ib 6 148 = true then if ib 6 148 = true then some (nI g, (wrA (wrA M3 0 3 ((M3.2 0 (Int32.toNatClampNeg 3)) + 1)) 0 6 (((wrA M3 0 3 ((M3.2 0 (Int32.toNatClampNeg 3)) + 1)).2 0 (Int32.toNatClampNeg 6)) + nI g))) else none else none else none else none) = _
    rw [if_pos i3, if_pos i3, if_pos i6, if_pos i6, c3, c6, e3, li_3, wr_at _ _ (by omega), if_neg (by omega), e6, a6]
    rfl
  · rw [wrI_1, if_neg (by omega), a6]
  · rw [wrA_1, wrA_1, a8, n2, m2]
  · rw [wr_same _ _ _ _ _ _ h0, wr_same _ _ _ _ _ _ h0, a9 j y h0, n3 j y h0, m3 j y h8]
