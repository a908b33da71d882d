/-! the rest of the pure layer: what single calls do to the whole state -/
section PR
variable {N : Nat} {K S C M M' : Mem} {cu ct : Nat} {hs : hS} {sv : sV} {ou : oB}
theorem slot_ok (s : St N S (M.2 0)) {x : Int32} {p : Nat} (hp : p < 16) (h : f_X3_slotWith S x = some (nI p)) : lotOK S p := by
  rcases asked s x with ⟨h1, -⟩ | ⟨p', c, t, q, h1, h2, R, I, h3, -, -⟩
  · exact absurd (Option.some.inj (h.symm.trans h1)) (by rw [nI_m1 (by omega)]; exact id)
  · have e := (nI_eq (by omega) (by omega)).mp (Option.some.inj (h.symm.trans h3))
    subst e
    exact I.1.1 p h1
theorem St.cnt {f : Nat → Int32} (s : St N S f) : S.1 0 = f 1 := by
  obtain ⟨c, t, q, R, -⟩ := s
  rw [R.c1, R.c2]
theorem nI_nm1 {p : Nat} (hp : p < 2 ^ 31) : ¬ nI p = -1 := by
  rw [nI_m1 hp]
  exact id
theorem q_err (h : KeR K M) : (K.1 0 = -1 ∧ Thr M 1 (f_X7_errorPosition M)) ∨ ∃ p, p ≤ 60 ∧ K.1 0 = nI p ∧ Val M (nI p) (f_X7_errorPosition M) := by
  obtain ⟨h1, -, h2 | ⟨p, hp, h2⟩, -⟩ := h
  · exact Or.inl ⟨h1.trans h2, Thr.of 0 (by rw [f_X7_errorPosition, if_pos h2, f_X7_fails, ob, wrI_wrI]; rfl)⟩
  · exact Or.inr ⟨p, hp, h1.trans h2, Val.of (by rw [f_X7_errorPosition, h2, if_neg (nI_nm1 (by omega))]; rfl)⟩
theorem q_fail (h : KeR K M) : (K.1 1 = -1 ∧ Thr M 1 (f_X7_failedCommand M)) ∨ ∃ p, p ≤ 60 ∧ K.1 1 = nI p ∧ Val M (nI p) (f_X7_failedCommand M) := by
  obtain ⟨-, h1, -, h2 | ⟨p, hp, h2⟩⟩ := h
  · exact Or.inl ⟨h1.trans h2, Thr.of 0 (by rw [f_X7_failedCommand, if_pos h2, f_X7_fails, ob, wrI_wrI]; rfl)⟩
  · exact Or.inr ⟨p, hp, h1.trans h2, Val.of (by rw [f_X7_failedCommand, h2, if_neg (nI_nm1 (by omega))]; rfl)⟩
theorem q_undoCount (h : Top N K S C cu ct hs sv ou M) : Val M (nI ct) (f_X7_undoCount M) := Val.of (by rw [f_X7_undoCount, h.2.1.2.2.1]; rfl)
theorem q_afterNo {x : Int32} (h : x < 0 ∨ nI 30 < x) : Thr M 1 (f_X7_dampAfter M x) := by
  have h1 : f_X7_in x 0 30 = some 0 := by
    rcases in_cases x 0 30 (by omega) (by omega) with ⟨h1, -⟩ | ⟨-, n, n1, n2, rfl⟩
    · exact h1
    · rcases h with h | h
      · exact absurd h (nI_pos (by omega))
      · exact absurd h (nI_nlt (by omega) (by omega))
  exact Thr.of 0 (by rw [f_X7_dampAfter, h1, ob, if_pos rfl]; rfl)
/-- a character is fed -/
theorem feed_both (h : Top N K S C cu ct hs sv ou M) {v : Nat} (hv : v < 65536) : (f_X1_append C (nI v) = some (0, C) ∧ Thr M 1 (f_X7_feed M (nI v))) ∨ ∃ n C' M', n < 60 ∧ f_X1_append C (nI v) = some (1, C') ∧ C'.1 0 = nI (n + 1) ∧ f_X7_feed M (nI v) = some (nI (n + 1), M') ∧ M'.1 0 = nI 0 ∧ Top (N + 64) K S C' cu ct hs sv ou M' := by
  obtain ⟨h1, h2, ⟨t, n, hC, hl, ht⟩, h4, h5, h6⟩ := h
  obtain ⟨c0, cn, cc⟩ := hC
  by_cases e : n = 60
  · subst e
    refine Or.inl ⟨?_, Thr.of 0 (by rw [f_X7_feed, if_pos (show M.1 3 = 60 from hl)]; rfl)⟩
    rw [f_X1_append, c0, if_neg (show ¬ nI 60 < (60 : Int32) from nI_nlt (a := 60) (b := 60) (by omega) (by omega))]
  · have hn : n < 60 := by omega
    refine Or.inr ⟨n, wrI (wrA C 0 (nI n) (nI v)) 0 (nI (n + 1)), wrI (wrA (wrI M 0 0) 5 (nI n) (nI v)) 3 (nI (n + 1)), hn, ?_, ?_, ?_, ?_, ?_⟩
    · rw [f_X1_append, c0, if_pos (show nI n < (60 : Int32) from nI_lt (a := n) (b := 60) hn (by omega)), if_pos (ib_nI hn (by omega)), vnc hv, nI_1]
    · rw [wrI_1, if_pos rfl]
    · rw [f_X7_feed, hl, if_neg (show ¬ nI n = (60 : Int32) from fun z => e ((nI_eq (a := n) (b := 60) (by omega) (by omega)).mp z)), if_pos (ib_nI hn (by omega)), nI_1]
    · rw [wrI_1, if_neg (by omega), wrA_1, wrI_1, if_pos rfl]
      rfl
    · have g1 : ∀ k, k ≠ 0 → k ≠ 3 → (wrI (wrA (wrI M 0 0) 5 (nI n) (nI v)) 3 (nI (n + 1))).1 k = M.1 k := fun k a b => by rw [wrI_1, if_neg b, wrA_1, wrI_1, if_neg a]
      have g2 : ∀ j y, j ≠ 5 → (wrI (wrA (wrI M 0 0) 5 (nI n) (nI v)) 3 (nI (n + 1))).2 j y = M.2 j y := fun j y a => by rw [wrI_2, wrA_2, if_neg a, wrI_2]
      refine ⟨(h1.congr (fun y _ => g2 0 y (by omega))).mono (by omega), (h2.move (g1 1 (by omega) (by omega)) (fun y => g2 3 y (by omega))).mono (by omega), ⟨fun i => if i = n then nI v else t i, n + 1, ⟨by rw [wrI_1, if_pos rfl], by omega, fun i hi => ?_⟩, by rw [wrI_1, if_pos rfl], fun i hi => ?_⟩, h4.fr (g1 5 (by omega) (by omega)) (g1 6 (by omega) (by omega)), h5.fr (by omega) (g1 2 (by omega) (by omega)) (fun y => g2 2 y (by omega)), h6.fr (g1 4 (by omega) (by omega)) (fun y => g2 7 y (by omega))⟩
      · rw [wrI_2, wr_at _ _ (by omega)]
        by_cases q : i = n
        · rw [if_pos ⟨rfl, q⟩]
          simp only [if_pos q]
          exact ⟨trivial, v, hv, rfl⟩
        · rw [if_neg (fun z => q z.2)]
          simp only [if_neg q]
          exact cc i (by omega)
      · rw [wrI_2, wr_at _ _ (by omega)]
        by_cases q : i = n
        · rw [if_pos ⟨rfl, q⟩]
          simp only [if_pos q]
        · rw [if_neg (fun z => q z.2), wrI_2]
          simp only [if_neg q]
          exact ht i (by omega)
/-- the text is empty -/
theorem TxR.none (hC : C.1 0 = nI 0) (hM : M.1 3 = nI 0) : TxR C M := ⟨fun _ => 0, 0, ⟨hC, by omega, fun i hi => absurd hi (by omega)⟩, hM, fun i hi => absurd hi (by omega)⟩
/-- a text is executed -/
theorem exec_top (h : Top N K S C cu ct hs sv ou M) (hN : N < 2 ^ 29) {b : Nat → Nat} {P0 P : Mem} (hP : f_X4_copyFrom P0 S = some P) :
    (∃ Pe C', Pe ≤ 60 ∧ f_X1_countCommands C = some (-1, C') ∧ C'.1 1 = nI Pe ∧ ∃ M', f_X7_execute M = some (0, M') ∧ M'.1 0 = nI 1 ∧ Top (N + 64) (wrI K 0 (nI Pe)) S (wrI C' 0 0) cu ct hs sv ou M') ∨
    (∃ m C1, 0 < m ∧ m ≤ 16 ∧ f_X1_countCommands C = some (nI m, C1) ∧
      ((∃ i S' C' S'', i < m ∧ f_X6_performFirst K S C1 (nI m) = some (nI i, S', C') ∧ f_X4_copyFrom S' P = some S'' ∧ ∃ M', f_X7_execute M = some (0, M') ∧ M'.1 0 = nI 2 ∧ Top (N + 64) (wrI K 1 (nI i)) S'' (wrI C' 0 0) cu ct (hput hs cu (b, P)) sv ou M') ∨
       (∃ S' C' M', f_X6_performFirst K S C1 (nI m) = some (nI m, S', C') ∧ f_X7_execute M = some (nI m, M') ∧ M'.1 0 = nI 0 ∧ Top (N + 64) K S' (wrI C' 0 0) (nxt cu) (cap ct) (hput hs cu (b, P)) sv ou M'))) := by
  have hpu := h.put b P
  obtain ⟨h1, h2, ⟨t, n, hC, hl, ht⟩, h4, h5, h6⟩ := h
  obtain ⟨k1, k2, k3, k4⟩ := h4
  have hm0 : ∀ C' : Mem, (wrI C' 0 0).1 0 = nI 0 := fun C' => by rw [wrI_1, if_pos rfl]; rfl
  rcases exec_both (K := K) h1 hN h2.2.1 h2.2.2.1 hC hl ht with ⟨Pe, C', M', i1, i2, i3, i4, i5, i6, i7, i8, i9, i10, i11, i12⟩ | ⟨m, C1, i1, i2, i3, i4, hh⟩
  · refine Or.inl ⟨Pe, C', i1, i2, i4, M', i5, i6, ?_⟩
    refine ⟨(h1.congr (fun y _ => i10 y)).mono (by omega), (h2.move i12.1 i12.2).mono (by omega), TxR.none (hm0 C') i7, ⟨?_, ?_, Or.inr ⟨Pe, i1, i8⟩, ?_⟩, h5.fr (by omega) (i11.1 2 (by omega)) (fun y => i11.2 2 y (by omega)), h6.fr (i11.1 4 (by omega)) (fun y => i11.2 7 y (by omega))⟩
    · rw [wrI_1, if_pos rfl, i8]
    · rw [wrI_1, if_neg (by omega), k2, i9]
    · rw [i9]; exact k4
  · refine Or.inr ⟨m, C1, i1, i2, i3, ?_⟩
    rcases hh with ⟨i, S', C', M', j1, j2, j3, j4, j5, j6, j7, j8, j9, j10, j11⟩ | ⟨S', C', M', j1, j2, j3, j4, j5, j6, j7, j8, j9, j10⟩
    · have sP : St N P (M'.2 0) := (h1.cp1 hP).congr (fun y hy => j9 y hy)
      obtain ⟨S'', q1, q2⟩ := sP.cp S'
      refine Or.inl ⟨i, S', C', S'', j1, j2, q1, M', j4, j5, ?_⟩
      have hq := hpu.2.1
      refine ⟨q2.mono (by omega), (hq.move j11.1 j11.2).mono (by omega), TxR.none (hm0 C') j6, ⟨?_, ?_, ?_, Or.inr ⟨i, by omega, j8⟩⟩, h5.fr (by omega) (j10.1 2 (by omega)) (fun y => j10.2 2 y (by omega)), h6.fr (j10.1 4 (by omega)) (fun y => j10.2 7 y (by omega))⟩
      · rw [wrI_1, if_neg (by omega), k1, j7]
      · rw [wrI_1, if_pos rfl, j8]
      · rw [j7]; exact k3
    · refine Or.inr ⟨S', C', M', j1, j3, j4, ?_⟩
      obtain ⟨p1, p2, p3⟩ := j10
      have sP : St N P (M.2 0) := h1.cp1 hP
      -- the frame in the model's second row: a memory with it there
      obtain ⟨Mx, hx1, hx2⟩ : ∃ Mx : Mem, Mx.1 = M.1 ∧ (∀ j y, Mx.2 j y = if j = 1 then M.2 0 y else M.2 j y) := ⟨(M.1, fun j y => if j = 1 then M.2 0 y else M.2 j y), rfl, fun _ _ => rfl⟩
      have hx : HR N (hK hs) (hM hs) cu ct Mx := h2.move (by rw [hx1]) (fun y => by rw [hx2, if_neg (show ¬ (3 : Nat) = 1 by omega)])
      have hp := hx.put (M' := M') (P := P) (sP.congr (fun y _ => by rw [hx2, if_pos rfl])) p1 (fun i y a c => by rw [p2 i y a c, hx2, if_neg (show ¬ (3 : Nat) = 1 by omega)]) (fun y a => by rw [p3 y a, hx2, if_pos rfl])
      have hp2 : HR N (hK (hput hs cu (b, P))) (hM (hput hs cu (b, P))) (nxt cu) (cap ct) M' := hp.ext (fun j hj => hK_put.mpr hj) (fun j _ => hM_put)
      refine ⟨j8.mono (by omega), hp2.mono (by omega), TxR.none (hm0 C') j5, ⟨?_, ?_, ?_, ?_⟩, h5.fr (by omega) (j9.1 2 (by omega)) (fun y => j9.2 2 y (by omega)), h6.fr (j9.1 4 (by omega)) (fun y => j9.2 7 y (by omega))⟩
      · rw [k1, j6]
      · rw [k2, j7]
      · rw [j6]; exact k3
      · rw [j7]; exact k4
/-- the latest change is taken back -/
theorem undo_both (h : Top N K S C cu ct hs sv ou M) : (ct = 0 ∧ Thr M 1 (f_X7_undo M)) ∨ (ct ≠ 0 ∧ ∃ b P S' M', hs (prv cu) = some (b, P) ∧ f_X4_copyFrom S P = some S' ∧ f_X7_undo M = some (nI (ct - 1), M') ∧ M'.1 0 = nI 0 ∧ Top (N + 64) K S' C (prv cu) (ct - 1) hs sv ou M') := by
  obtain ⟨h1, h2, h3, h4, h5, h6⟩ := h
  rcases m_undo M h2.2.1 h2.2.2.1 with ⟨e, q⟩ | ⟨e, M', q1, q2, q3, q4, q5, q6⟩
  · exact Or.inl ⟨e, Thr.of 0 q⟩
  · obtain ⟨u1, u2, u3⟩ := h2.undo e q3 (fun y => q5 3 y (by omega))
    obtain ⟨⟨b, P⟩, hb⟩ := (show hK hs (prv cu) from u2)
    have hP : hM hs (prv cu) = P := by rw [hM, hb]
    have sP : St N P (M'.2 0) := (show St N (hM hs (prv cu)) _ from u3).congr (f := fun y => M.2 3 (148 * (ct - 1) + y)) (fun y hy => q6 y hy) |> fun z => by rw [hP] at z; exact z
    obtain ⟨S', s1, s2⟩ := sP.cp S
    exact Or.inr ⟨e, b, P, S', M', hb, s1, q1, q2, s2.mono (by omega), u1.mono (by omega), h3.fr (q4 3 (by omega) (by omega)) (fun y => q5 5 y (by omega)), h4.fr (q4 5 (by omega) (by omega)) (q4 6 (by omega) (by omega)), h5.fr (by omega) (q4 2 (by omega) (by omega)) (fun y => q5 2 y (by omega)), h6.fr (q4 4 (by omega) (by omega)) (fun y => q5 7 y (by omega))⟩
theorem save_both (h : Top N K S C cu ct hs sv ou M) {b : Nat → Nat} {P0 P : Mem} (hP : f_X4_copyFrom P0 S = some P) : ∃ M', f_X7_save M = some (S.1 0, M') ∧ M'.1 0 = nI 0 ∧ Top (N + 64) K S C cu ct hs (some (b, P)) ou M' := by
  obtain ⟨h1, h2, h3, h4, h5, h6⟩ := h
  obtain ⟨M', q1, q2, q3, q4, q5, q6⟩ := m_save h1
  refine ⟨M', q1, q2, (h1.congr (fun y _ => q5 0 y (by omega))).mono (by omega), (h2.move (q4 1 (by omega) (by omega)) (fun y => q5 3 y (by omega))).mono (by omega), h3.fr (q4 3 (by omega) (by omega)) (fun y => q5 5 y (by omega)), h4.fr (q4 5 (by omega) (by omega)) (q4 6 (by omega) (by omega)), ⟨?_, ((q6.cp1 hP)).mono (by omega)⟩, h6.fr (q4 4 (by omega) (by omega)) (fun y => q5 7 y (by omega))⟩
  rw [q3]
  decide
theorem restore_none (h : Top N K S C cu ct hs none ou M) : Thr M 1 (f_X7_restore M) := Thr.of 0 ((m_restore (N := N) (P := zM) M).1 h.2.2.2.2.1)
theorem restore_some {b : Nat → Nat} {P : Mem} (h : Top N K S C cu ct hs (some (b, P)) ou M) : ∃ S' M', f_X4_copyFrom S P = some S' ∧ f_X7_restore M = some (S'.1 0, M') ∧ M'.1 0 = nI 0 ∧ Top (N + 64) K S' C cu 0 hs (some (b, P)) ou M' := by
  obtain ⟨h1, h2, h3, h4, ⟨h5, h5'⟩, h6⟩ := h
  obtain ⟨M', q1, q2, q3, q4, q5, q6⟩ := (m_restore M).2 h5 h5'
  obtain ⟨S', s1, s2⟩ := q6.cp S
  refine ⟨S', M', s1, ?_, q2, s2.mono (by omega), ⟨h2.1, by omega, q3, fun i hi => absurd hi (by omega)⟩, h3.fr (q4 3 (by omega) (by omega)) (fun y => q5 5 y (by omega)), h4.fr (q4 5 (by omega) (by omega)) (q4 6 (by omega) (by omega)), ⟨by rw [q4 2 (by omega) (by omega)]; exact h5, (h5'.congr (fun y _ => q5 2 y (by omega))).mono (by omega)⟩, h6.fr (q4 4 (by omega) (by omega)) (fun y => q5 7 y (by omega))⟩
  rw [q1, s2.cnt, ← q6.cnt]
end PR
