/-! the commands of a text one after the other; execute, but for the class' history -/
section PERF
variable {t : Nat → Int32} {n : Nat}
theorem perf_both {m : Nat} {P V : Nat → Nat} {K : Mem} (hm : m ≤ 16) (hs : Seq t n 0 m P V) (kM : Mem → Option (Int32 × Mem)) (kF : Int32 → Mem → Option (Int32 × Mem)) (hkF : ∀ x (M : Mem), kF x M = f_X7_execute_L125 x (fun M_25 => (f_X7_fails (wrI M_25 6 x) 2).bind fun (z : Int32 × Mem) => match z with | (r26, M_27) => some (r26, M_27)) 1200 0 M) :
    ∀ (d j fc fm N : Nat) (S C M : Mem), j + d = m → d < fc → d < fm → N + d < 2 ^ 30 → CT C t n → (j < m → C.1 1 = nI (P j)) → St N S (M.2 0) → M.1 10 = nI m → (∀ i, i < m → Told M t n i (P i) (V i)) →
      (∃ i S' C' M', i < m ∧ f_X6_performFirst_L9 (nI m) K (fun S_14 C_14 => some (nI m, S_14, C_14)) fc (nI j) S C = some (nI i, S', C') ∧ CT C' t n ∧ f_X7_execute_L104 kM fm (nI j) M = kF (nI i) M' ∧ Fm M M') ∨
      (∃ S' C' M', f_X6_performFirst_L9 (nI m) K (fun S_14 C_14 => some (nI m, S_14, C_14)) fc (nI j) S C = some (nI m, S', C') ∧ CT C' t n ∧ f_X7_execute_L104 kM fm (nI j) M = kM M' ∧ Fm M M' ∧ St (N + d) S' (M'.2 0)) := by
  intro d
  induction d with
  | zero =>
    intro j fc fm N S C M h1 h2 h3 h4 hC hc1 s h10 hT
    obtain ⟨fc', rfl⟩ : ∃ z, fc = z + 1 := ⟨fc - 1, by omega⟩
    obtain ⟨fm', rfl⟩ : ∃ z, fm = z + 1 := ⟨fm - 1, by omega⟩
    have hj : j = m := by omega
    subst hj
    have hle : nI j ≤ nI j := nI_le (Nat.le_refl j) (by omega)
    exact Or.inr ⟨S, C, M, by rw [f_X6_performFirst_L9, if_pos hle], hC, by rw [f_X7_execute_L104, h10, if_pos hle], Fm.rf M, s⟩
  | succ d ih =>
    intro j fc fm N S C M h1 h2 h3 h4 hC hc1 s h10 hT
    obtain ⟨fc', rfl⟩ : ∃ z, fc = z + 1 := ⟨fc - 1, by omega⟩
    obtain ⟨fm', rfl⟩ : ∃ z, fm = z + 1 := ⟨fm - 1, by omega⟩
    have hle : ¬ nI m ≤ nI j := nI_ge (by omega) (by omega)
    obtain ⟨hp, hg⟩ := hs.1 j (by omega) (by omega)
    obtain ⟨C1, a1, a2, a3, a4, a5, a6⟩ := (c_command hC (hc1 (by omega)) hp).1 (V j) hg
    have hop := does_both s (by omega) (C := C1) (j := j) (p := P j) (v := V j) (t := t) (n := n) (by omega) hg.1.1 hg.2 (hT j (by omega)) a4 a5 a6
    rcases hop with ⟨e, e', b1, b2, b3, b4⟩ | ⟨r, S', M', b1, b2, b3, b4, b5⟩
    · refine Or.inl ⟨j, S, C1, M, by omega, ?_, a2, ?_, Fm.rf M⟩
      · have hneg : ¬ (0 : Int32) ≤ e := by
          rw [Int32.lt_iff_toInt_lt] at b1
          rw [Int32.le_iff_toInt_le]
          omega
        rw [f_X6_performFirst_L9, if_neg hle, a1, ob]
        dsimp only
        rw [if_neg (by decide), b3, ob]
        dsimp only
        rw [if_neg hneg]
      · rw [f_X7_execute_L104, h10, if_neg hle, b4, ob, hkF]
        dsimp only
        rw [if_neg b2]
    · have hpos : (0 : Int32) ≤ nI r := nI_pos' (by omega)
      obtain ⟨C2, c3⟩ : ∃ C2, C2 = wrI C1 1 (C1.1 1 + 1) := ⟨_, rfl⟩
      have hcc : f_X6_performFirst_L9 (nI m) K (fun S_14 C_14 => some (nI m, S_14, C_14)) (fc' + 1) (nI j) S C = f_X6_performFirst_L9 (nI m) K (fun S_14 C_14 => some (nI m, S_14, C_14)) fc' (nI (j + 1)) S' C2 := by
        rw [f_X6_performFirst_L9, if_neg hle, a1, ob]
        dsimp only
        rw [if_neg (by decide), b2, ob]
        dsimp only
        rw [if_pos hpos, f_X1_skipSemicolon, ob, c3, li_1, nI_add]
      have hmm : f_X7_execute_L104 kM (fm' + 1) (nI j) M = f_X7_execute_L104 kM fm' (nI (j + 1)) M' := by
        rw [f_X7_execute_L104, h10, if_neg hle, b3, ob]
        dsimp only
        rw [if_pos rfl, li_1, nI_add]
      have hI := ih (j + 1) fc' fm' (N + 1) S' C2 M' (by omega) (by omega) (by omega) (by omega) (by rw [c3]; exact a2.move rfl (fun _ => rfl)) (fun hj => by rw [c3, wrI_1, if_pos rfl, a3, (hs.2.1 j (by omega) hj).2.2, li_1, nI_add]) b5 (by rw [b4.1 10 (by omega), h10]) (fun i hi => by
        obtain ⟨t1, t2, t3⟩ := hT i hi
        exact ⟨by rw [b4.2 6 _ (by omega) (by omega)]; exact t1, fun x hx => by rw [b4.2 6 _ (by omega) (by omega)]; exact t2 x hx, fun h0 => by rw [b4.2 6 _ (by omega) (by omega)]; exact t3 h0⟩)
      rcases hI with ⟨i, S2, C', M2, i1, i2, i3, i4, i5⟩ | ⟨S2, C', M2, i1, i2, i3, i4, i5⟩
      · exact Or.inl ⟨i, S2, C', M2, i1, hcc.trans i2, i3, hmm.trans i4, b4.tr i5⟩
      · exact Or.inr ⟨S2, C', M2, hcc.trans i1, i2, hmm.trans i3, b4.tr i4, by rw [show N + (d + 1) = N + 1 + d by omega]; exact i5⟩
/-- the frame comes back -/
theorem m_back (x : Int32) (M : Mem) (kk : Mem → Option (Int32 × Mem)) : ∃ M', f_X7_execute_L125 x kk 1200 0 M = kk M' ∧ M'.1 = M.1 ∧ (∀ j y, j ≠ 0 → M'.2 j y = M.2 j y) ∧ ∀ y, y < 148 → M'.2 0 y = M.2 1 y := by
  rw [li_0]
  have H := lpI (fun n i a => f_X7_execute_L125 x kk n i a) kk (fun i a => a.1 = M.1 ∧ (∀ j y, j ≠ 0 → a.2 j y = M.2 j y) ∧ ∀ y, y < i → a.2 0 y = M.2 1 y) 148 ?_ ?_ 148 1200 0 M (by omega) (by omega) ⟨rfl, fun _ _ _ => rfl, fun y hy => absurd hy (by omega)⟩
  · obtain ⟨M', ⟨h1, h2, h3⟩, h4⟩ := H
    exact ⟨M', h4, h1, h2, h3⟩
  · intro n a _
    simp (disch := omega) only [f_X7_execute_L125, li_0, li_1, li_2, li_3, li_4, li_5, li_6, li_7, li_8, li_9, li_10, li_11, li_12, li_16, li_20, li_23, li_24, li_30, li_32, li_35, li_37, li_40, li_42, li_46, li_48, li_53, li_57, li_58, li_59, li_60, li_63, li_64, li_65, li_97, li_99, li_100, li_101, li_120, li_126, li_132, li_148, li_300, li_999, li_1036, li_1184, li_9999, nn1, nI_leI, nI_ltI, nI_eq, nI_add, pk_mul, pk_sub, nI_clamp, ib_nI, if_pos, if_neg, if_true, if_false, eq_self, ob]
  · intro n i a hi ⟨a1, a2, a3⟩
    refine ⟨wrA a 0 (nI i) (a.2 1 i), ⟨a1, fun j y hj => by rw [wr_same _ _ _ _ _ _ hj, a2 j y hj], fun y hy => ?_⟩, by simp (disch := omega) only [f_X7_execute_L125, li_0, li_1, li_2, li_3, li_4, li_5, li_6, li_7, li_8, li_9, li_10, li_11, li_12, li_16, li_20, li_23, li_24, li_30, li_32, li_35, li_37, li_40, li_42, li_46, li_48, li_53, li_57, li_58, li_59, li_60, li_63, li_64, li_65, li_97, li_99, li_100, li_101, li_120, li_126, li_132, li_148, li_300, li_999, li_1036, li_1184, li_9999, nn1, nI_leI, nI_ltI, nI_eq, nI_add, pk_mul, pk_sub, nI_clamp, ib_nI, if_pos, if_neg, if_true, if_false, eq_self, ob]⟩
    rw [wr_at _ _ (by omega)]
    by_cases g : y = i
    · rw [if_pos ⟨rfl, g⟩, a2 1 i (by omega), g]
    · rw [if_neg (fun h => g h.2), a3 y (by omega)]
/-- what a call leaves alone that isn't one of the state's: saved, text, output -/
def Lv (M M' : Mem) : Prop := (∀ k, k = 2 ∨ k = 4 → M'.1 k = M.1 k) ∧ ∀ j y, j = 2 ∨ j = 5 ∨ j = 7 → M'.2 j y = M.2 j y
/-- .. nor the history -/
def Lh (M M' : Mem) : Prop := M'.1 1 = M.1 1 ∧ ∀ y, M'.2 3 y = M.2 3 y
/-- a change is kept in the history: k frames before, the frame is M's state -/
def Kp (M M' : Mem) (k : Nat) : Prop := M'.1 1 = nI (if k = 8 then 8 else k + 1) ∧ (∀ i y, y < 148 → i < (if k = 8 then 7 else k) → M'.2 3 (148 * i + y) = M.2 3 (148 * (if k = 8 then i + 1 else i) + y)) ∧ ∀ y, y < 148 → M'.2 3 (148 * (if k = 8 then 7 else k) + y) = M.2 0 y
theorem exec_both {N k : Nat} {S C M K : Mem} (s : St N S (M.2 0)) (hN : N < 2 ^ 29) (hk : k ≤ 8) (hk1 : M.1 1 = nI k) (hC : CT C t n) (hl : M.1 3 = nI n) (ht : ∀ i, i < n → M.2 5 i = t i) :
    (∃ Pe C' M', Pe ≤ 60 ∧ f_X1_countCommands C = some (-1, C') ∧ CT C' t n ∧ C'.1 1 = nI Pe ∧ f_X7_execute M = some (0, M') ∧ M'.1 0 = nI 1 ∧ M'.1 3 = nI 0 ∧ M'.1 5 = nI Pe ∧ M'.1 6 = M.1 6 ∧ (∀ y, M'.2 0 y = M.2 0 y) ∧ Lv M M' ∧ Lh M M') ∨
    (∃ m C1, 0 < m ∧ m ≤ 16 ∧ f_X1_countCommands C = some (nI m, C1) ∧ CT C1 t n ∧
      ((∃ i S' C' M', i < m ∧ f_X6_performFirst K S C1 (nI m) = some (nI i, S', C') ∧ CT C' t n ∧ f_X7_execute M = some (0, M') ∧ M'.1 0 = nI 2 ∧ M'.1 3 = nI 0 ∧ M'.1 5 = M.1 5 ∧ M'.1 6 = nI i ∧ (∀ y, y < 148 → M'.2 0 y = M.2 0 y) ∧ Lv M M' ∧ Lh M M') ∨
       (∃ S' C' M', f_X6_performFirst K S C1 (nI m) = some (nI m, S', C') ∧ CT C' t n ∧ f_X7_execute M = some (nI m, M') ∧ M'.1 0 = nI 0 ∧ M'.1 3 = nI 0 ∧ M'.1 5 = M.1 5 ∧ M'.1 6 = M.1 6 ∧ St (N + 16) S' (M'.2 0) ∧ Lv M M' ∧ Kp M M' k))) := by
  obtain ⟨M1, r1, r2, r3, r4⟩ := m_rem M
  have hn := hC.2.1
  obtain ⟨M2, hM2⟩ : ∃ M2, M2 = wrI (wrI (wrI (wrI (wrI M1 8 0) 9 (M1.1 3)) 3 0) 10 0) 11 0 := ⟨_, rfl⟩
  have z3 : M1.1 3 = nI n := by rw [r2, if_neg (by omega), hl]
  have m8 : M2.1 8 = nI 0 := by rw [hM2]; rfl
  have m9 : M2.1 9 = nI n := by rw [hM2, ← z3]; rfl
  have m3 : M2.1 3 = nI 0 := by rw [hM2]; rfl
  have m10 : M2.1 10 = nI 0 := by rw [hM2]; rfl
  have m11 : M2.1 11 = nI 0 := by rw [hM2]; rfl
  have mo : ∀ j, j ≠ 0 → j < 8 → j ≠ 3 → M2.1 j = M.1 j := by
    intro j j0 j8 j3
    rw [hM2, wrI_1, if_neg (by omega), wrI_1, if_neg (by omega), wrI_1, if_neg j3, wrI_1, if_neg (by omega), wrI_1, if_neg (by omega), r2, if_neg j0]
  have m0 : M2.1 0 = nI 0 := by
    rw [hM2, wrI_1, if_neg (by omega), wrI_1, if_neg (by omega), wrI_1, if_neg (by omega), wrI_1, if_neg (by omega), wrI_1, if_neg (by omega), r2, if_pos rfl]
  have mr : ∀ j y, j ≠ 1 → M2.2 j y = M.2 j y := fun j y hj => by
    rw [hM2]
    exact r3 j y hj
  have mf : ∀ y, y < 148 → M2.2 1 y = M.2 0 y := fun y hy => by
    rw [hM2]
    exact r4 y hy
  have hMT : MT M2 t n := ⟨m9, hn, fun i hi => ⟨by rw [mr 5 i (by omega), ht i hi], (hC.2.2 i hi).2⟩⟩
  let kM := fun (M_11 : Mem) =>
    if (M_11.1 11) = 0 then
      if (M_11.1 9) ≤ (M_11.1 8) then
        f_X7_execute_L104
        (fun M_29 =>
          (f_X7_changed M_29 (M_29.1 10)).bind fun (z : Int32 × Mem) => match z with | (r30, M_31) => some (r30, M_31)) 1200 0 M_11
      else
        (f_X7_fails (wrI M_11 5 (M_11.1 8)) 1).bind fun (z : Int32 × Mem) => match z with | (r33, M_34) => some (r33, M_34)
    else
      (f_X7_fails (wrI M_11 5 (M_11.1 8)) 1).bind fun (z : Int32 × Mem) => match z with | (r13, M_14) => some (r13, M_14)
  have hE : f_X7_execute M = (f_X7_readsOne M2).bind (fun M_9 => f_X7_execute_L36 kM 1200 M_9) := by
    rw [f_X7_execute, r1, ob, hM2]
  have hCc : f_X1_countCommands C = f_X1_countCommands_L6 (fun C_13 => some (-1, C_13)) 70 (nI (0 + 1)) (wrI C 1 0) := by
    rw [f_X1_countCommands, f_X1_rewind, ob]
    rfl
  have hP := parse_both (t := t) (n := n) (fun C_13 => some (-1, C_13)) kM 16 0 0 70 1200 (wrI C 1 0) M2 (by omega) (by omega) (by omega) (by omega) (by omega) (hC.move rfl (fun _ => rfl)) (by rw [wrI_1, if_pos rfl]; rfl) hMT m8 m11 m10
  rcases hP with ⟨Pe, C', M', i0, i1, i2, i3, i4, i5, i6, i7, i8⟩ | ⟨m, P, V, C1, M3, i1, i2, i3, i4, i5, i6, i7, i8, i9, i10, i11, i12, i13, i14⟩
  · have hval : kM M' = some (0, wrI (wrI M' 5 (nI Pe)) 0 1) := by
      show (if M'.1 11 = 0 then _ else _) = _
      rcases i7 with i7 | ⟨i7, i7'⟩
      · rw [i7, if_neg (by decide), f_X7_fails, ob, i5]
      · rw [i7, if_pos (show nI 0 = 0 from rfl), i6, i5, if_neg (nI_ge i7' (by omega)), f_X7_fails, ob]
    refine Or.inl ⟨Pe, C', wrI (wrI M' 5 (nI Pe)) 0 1, ?_, hCc.trans i1, i2, i3, hE.trans (i4.trans hval), rfl, ?_, rfl, ?_, fun y => ?_, ⟨fun j hj => ?_, fun j y hj => ?_⟩, ?_, fun y => ?_⟩
    · omega
    · rw [wrI_1, if_neg (by omega), wrI_1, if_neg (by omega), i8.1 3 (by omega) (by omega) (by omega), m3]
    · rw [wrI_1, if_neg (by omega), wrI_1, if_neg (by omega), i8.1 6 (by omega) (by omega) (by omega), mo 6 (by omega) (by omega) (by omega)]
    · rw [wrI_2, wrI_2, i8.2 0 y (by omega), mr 0 y (by omega)]
    · rw [wrI_1, if_neg (by omega), wrI_1, if_neg (by omega), i8.1 j (by omega) (by omega) (by omega), mo j (by omega) (by omega) (by omega)]
    · rw [wrI_2, wrI_2, i8.2 j y (by omega), mr j y (by omega)]
    · rw [wrI_1, if_neg (by omega), wrI_1, if_neg (by omega), i8.1 1 (by omega) (by omega) (by omega), mo 1 (by omega) (by omega) (by omega)]
    · rw [wrI_2, wrI_2, i8.2 3 y (by omega), mr 3 y (by omega)]
  · refine Or.inr ⟨m, C1, i1, i2, hCc.trans i3, i4, ?_⟩
    have i80 : M3.1 11 = 0 := i8
    have hval : kM M3 = f_X7_execute_L104 (fun M_29 => (f_X7_changed M_29 (M_29.1 10)).bind fun (z : Int32 × Mem) => match z with | (r30, M_31) => some (r30, M_31)) 1200 (nI 0) M3 := by
      show (if M3.1 11 = 0 then _ else _) = _
      rw [if_pos i80, i7, i6, if_pos (nI_le (Nat.le_refl n) (by omega)), li_0]
    have s3 : St N S (M3.2 0) := s.congr (fun y _ => by rw [i13.2 0 y (by omega), mr 0 y (by omega)])
    have hF := perf_both (t := t) (n := n) (P := P) (V := V) (K := K) i2 i11 (fun M_29 => (f_X7_changed M_29 (M_29.1 10)).bind fun (z : Int32 × Mem) => match z with | (r30, M_31) => some (r30, M_31)) _ (fun _ _ => rfl) m 0 70 1200 N S (wrI C1 1 0) M3 (by omega) (by omega) (by omega) (by omega) (i4.move rfl (fun _ => rfl)) (fun _ => by rw [wrI_1, if_pos rfl, i10]; rfl) s3 i9 (fun i hi => i12 i (by omega) hi)
    have hpf : f_X6_performFirst K S C1 (nI m) = f_X6_performFirst_L9 (nI m) K (fun S_14 C_14 => some (nI m, S_14, C_14)) 70 (nI 0) S (wrI C1 1 0) := by
      rw [f_X6_performFirst, f_X1_rewind, ob]
      rfl
    rcases hF with ⟨i, S', C', M4, j1, j2, j3, j4, j5⟩ | ⟨S', C', M4, j2, j3, j4, j5, j6⟩
    · obtain ⟨M5, k1, k2, k3, k4⟩ := m_back (nI i) M4 (fun M_25 => (f_X7_fails (wrI M_25 6 (nI i)) 2).bind fun (z : Int32 × Mem) => match z with | (r26, M_27) => some (r26, M_27))
      refine Or.inl ⟨i, S', C', wrI (wrI M5 6 (nI i)) 0 2, j1, hpf.trans j2, j3, ?_, rfl, ?_, ?_, rfl, fun y hy => ?_, ⟨fun j hj => ?_, fun j y hj => ?_⟩, ?_, fun y => ?_⟩
      · rw [hE, i5, hval, j4, k1, f_X7_fails, ob]
      · rw [wrI_1, if_neg (by omega), wrI_1, if_neg (by omega), k2, j5.1 3 (by omega), i13.1 3 (by omega) (by omega) (by omega), m3]
      · rw [wrI_1, if_neg (by omega), wrI_1, if_neg (by omega), k2, j5.1 5 (by omega), i13.1 5 (by omega) (by omega) (by omega), mo 5 (by omega) (by omega) (by omega)]
      · rw [wrI_2, wrI_2, k4 y hy, j5.2 1 y (by omega) (by omega), i13.2 1 y (by omega), mf y hy]
      · rw [wrI_1, if_neg (by omega), wrI_1, if_neg (by omega), k2, j5.1 j (by omega), i13.1 j (by omega) (by omega) (by omega), mo j (by omega) (by omega) (by omega)]
      · rw [wrI_2, wrI_2, k3 j y (by omega), j5.2 j y (by omega) (by omega), i13.2 j y (by omega), mr j y (by omega)]
      · rw [wrI_1, if_neg (by omega), wrI_1, if_neg (by omega), k2, j5.1 1 (by omega), i13.1 1 (by omega) (by omega) (by omega), mo 1 (by omega) (by omega) (by omega)]
      · rw [wrI_2, wrI_2, k3 3 y (by omega), j5.2 3 y (by omega) (by omega), i13.2 3 y (by omega), mr 3 y (by omega)]
    · have h41 : M4.1 1 = nI k := by rw [j5.1 1 (by omega), i13.1 1 (by omega) (by omega) (by omega), mo 1 (by omega) (by omega) (by omega), hk1]
      have h410 : M4.1 10 = nI m := by rw [j5.1 10 (by omega), i9]
      obtain ⟨M5, k1, k2, k3, k4, k5, k6⟩ := m_changed M4 hk h41 (nI m)
      refine Or.inr ⟨S', C', M5, hpf.trans j2, j3, ?_, ?_, ?_, ?_, ?_, ?_, ⟨fun j hj => ?_, fun j y hj => ?_⟩, k2, fun i y hy hi => ?_, fun y hy => ?_⟩
      · rw [hE, i5, hval, j4, h410, k1, ob]
      · rw [k3 0 (by omega), j5.1 0 (by omega), i13.1 0 (by omega) (by omega) (by omega), m0]
      · rw [k3 3 (by omega), j5.1 3 (by omega), i13.1 3 (by omega) (by omega) (by omega), m3]
      · rw [k3 5 (by omega), j5.1 5 (by omega), i13.1 5 (by omega) (by omega) (by omega), mo 5 (by omega) (by omega) (by omega)]
      · rw [k3 6 (by omega), j5.1 6 (by omega), i13.1 6 (by omega) (by omega) (by omega), mo 6 (by omega) (by omega) (by omega)]
      · exact (j6.congr (fun y _ => k4 0 y (by omega))).mono (by omega)
      · rw [k3 j (by omega), j5.1 j (by omega), i13.1 j (by omega) (by omega) (by omega), mo j (by omega) (by omega) (by omega)]
      · rw [k4 j y (by omega), j5.2 j y (by omega) (by omega), i13.2 j y (by omega), mr j y (by omega)]
      · rw [k5 i y hy hi, j5.2 3 _ (by omega) (by omega), i13.2 3 _ (by omega), mr 3 _ (by omega)]
      · rw [k6 y hy, j5.2 1 y (by omega) (by omega), i13.2 1 y (by omega), mf y hy]
end PERF
