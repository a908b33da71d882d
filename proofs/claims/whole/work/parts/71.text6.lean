/-! .. the whole text, class and model -/
def Fr2 (M M' : Mem) : Prop := (∀ k, k ≠ 8 → k ≠ 10 → k ≠ 11 → M'.1 k = M.1 k) ∧ ∀ j y, j ≠ 6 → M'.2 j y = M.2 j y
theorem Fr2.tr {M M1 M2 : Mem} (h : Fr2 M M1) (g : Fr2 M1 M2) : Fr2 M M2 := ⟨fun k a b c => (g.1 k a b c).trans (h.1 k a b c), fun j y a => (g.2 j y a).trans (h.2 j y a)⟩
section TEXT6
variable {t : Nat → Int32} {n cm : Nat}
theorem Rd.all {M M' : Mem} {p v : Nat} (h : Rd M M' t n cm p v) : MT M' t n ∧ M'.1 8 = nI (fr t n (wd v) p).2.1 ∧ M'.1 11 = (if (fr t n (wd v) p).1 = true then nI 0 else nI 1) ∧ M'.1 10 = nI (cm + 1) ∧ Fr2 M M' ∧ (∀ y, y < 5 * cm → M'.2 6 y = M.2 6 y) ∧ ((fr t n (wd v) p).1 = true → Told M' t n cm p v) := by
  obtain ⟨M1, rfl, ⟨h1, h2, h3, h4, h5, h6⟩, h7⟩ := h
  refine ⟨⟨h1.1, h1.2.1, h1.2.2⟩, h2, h3, by rw [wrI_1, if_pos rfl], ⟨fun k k8 k10 k11 => by rw [wrI_1, if_neg k10, h6.1 k k8 k11], fun j y hj => h6.2 j y (Or.inl hj)⟩, fun y hy => h6.2 6 y (Or.inr (Or.inl hy)), fun g => ?_⟩
  obtain ⟨a1, a2⟩ := h7 g
  exact ⟨a1, h5 g, a2⟩
theorem m_cmd {M : Mem} {p v : Nat} (h : MT M t n) (h8 : M.1 8 = nI p) (h11 : M.1 11 = nI 0) (h10 : M.1 10 = nI cm) (hcm : cm < 59) (hd : Disp t n p v) : ∃ M', f_X7_readsOne M = some M' ∧ Rd M M' t n cm p v := by
  obtain ⟨d1, d2, d3, d4, d5⟩ := hd
  have hv : v = 0 ∨ v = 1 ∨ v = 2 ∨ v = 3 ∨ v = 4 ∨ v = 5 ∨ v = 6 ∨ v = 7 ∨ v = 8 ∨ v = 9 ∨ v = 10 := by omega
  rcases hv with e | e | e | e | e | e | e | e | e | e | e <;> subst e
  · exact m_cmd0 h h8 h11 h10 d2 hcm (d3.trans (by decide +kernel))
  · exact m_cmd1 h h8 h11 h10 d2 hcm (d3.trans (by decide +kernel)) (d5 rfl)
  · exact m_cmd2 h h8 h11 h10 d2 hcm (d3.trans (by decide +kernel))
  · exact m_cmd3 h h8 h11 h10 d2 hcm (d3.trans (by decide +kernel))
  · exact m_cmd4 h h8 h11 h10 d2 hcm (d3.trans (by decide +kernel))
  · exact m_cmd5 h h8 h11 h10 d2 hcm (d3.trans (by decide +kernel))
  · exact m_cmd6 h h8 h11 h10 d2 hcm (d3.trans (by decide +kernel))
  · exact m_cmd7 h h8 h11 h10 d2 hcm (d3.trans (by decide +kernel))
  · exact m_cmd8 h h8 h11 h10 d2 hcm (d3.trans (by decide +kernel)) (d4 rfl)
  · exact m_cmd9 h h8 h11 h10 d2 hcm (d3.trans (by decide +kernel))
  · exact m_cmd10 h h8 h11 h10 d2 hcm (d3.trans (by decide +kernel))
/-- a letter with which no command begins -/
theorem m_cmdNo {M : Mem} {p : Nat} (h : MT M t n) (h8 : M.1 8 = nI p) (h10 : M.1 10 = nI cm) (hp : p ≤ n) (hcm : cm < 59) (hn : NoDisp t n p) : ∃ r, f_X7_readsOne M = some (wrI (wrI (wrA M 6 (nI (5 * cm)) r) 11 1) 10 (nI (cm + 1))) := by
  have hib : ib (nI (5 * cm)) 300 = true := ib_nI (by omega) (by omega)
  have hh : f_X7_here M 0 = some (if p < n then t p else -1) := by
    have := m_here h h8 hp (k := 0) (by omega)
    rw [Nat.add_zero] at this
    exact this
  have hne : ∀ u, u < 11 → ¬ (if p < n then t p else -1) = fst u := by
    intro u hu
    by_cases e : p < n
    · rw [if_pos e]
      exact fun g => hn u hu ⟨e, g⟩
    · rw [if_neg e]
      exact fun g => (wd_cons u hu).2.2.2.1 g.symm
  generalize (if p < n then t p else -1) = r at hh hne
  have n0 : ¬ r = 108 := fun g => hne 0 (by omega) (g.trans (by decide +kernel))
  have n1 : ¬ r = 115 := fun g => hne 1 (by omega) (g.trans (by decide +kernel))
  have n2 : ¬ r = 111 := fun g => hne 2 (by omega) (g.trans (by decide +kernel))
  have n3 : ¬ r = 119 := fun g => hne 3 (by omega) (g.trans (by decide +kernel))
  have n4 : ¬ r = 113 := fun g => hne 4 (by omega) (g.trans (by decide +kernel))
  have n5 : ¬ r = 114 := fun g => hne 5 (by omega) (g.trans (by decide +kernel))
  have n6 : ¬ r = 109 := fun g => hne 6 (by omega) (g.trans (by decide +kernel))
  have n7 : ¬ r = 97 := fun g => hne 7 (by omega) (g.trans (by decide +kernel))
  have n9 : ¬ r = 98 := fun g => hne 9 (by omega) (g.trans (by decide +kernel))
  have n10 : ¬ r = 100 := fun g => hne 10 (by omega) (g.trans (by decide +kernel))
  refine ⟨r, ?_⟩
  rw [f_X7_readsOne, hh, ob, h10, li_5, pk_mul, if_pos hib]
  simp only [n0, n1, n2, n3, n4, n5, n6, n7, n9, n10, if_false, ite_self]
  rw [show nI cm + 1 = nI (cm + 1) from nI_1 cm]
/-- the commands k, .. , m - 1 of a well-formed text: where they begin, which they are -/
def Seq (t : Nat → Int32) (n k m : Nat) (P V : Nat → Nat) : Prop := (∀ j, k ≤ j → j < m → P j ≤ n ∧ Good t n (P j) (V j)) ∧ (∀ j, k ≤ j → j + 1 < m → (fr t n (wd (V j)) (P j)).2.1 < n ∧ t (fr t n (wd (V j)) (P j)).2.1 = 59 ∧ P (j + 1) = (fr t n (wd (V j)) (P j)).2.1 + 1) ∧ (fr t n (wd (V (m - 1))) (P (m - 1))).2.1 = n
theorem parse_both (kC : Mem → Option (Int32 × Mem)) (kM : Mem → Option (Int32 × Mem)) : ∀ (d k p fc fm : Nat) (C M : Mem), k + d = 16 → 4 * k ≤ p → p ≤ n → d < fc → d < fm → CT C t n → C.1 1 = nI p → MT M t n → M.1 8 = nI p → M.1 11 = nI 0 → M.1 10 = nI k →
    (∃ Pe C' M', Pe ≤ n ∧ f_X1_countCommands_L6 kC fc (nI (k + 1)) C = some (-1, C') ∧ CT C' t n ∧ C'.1 1 = nI Pe ∧ (f_X7_readsOne M).bind (fun M_9 => f_X7_execute_L36 kM fm M_9) = kM M' ∧ M'.1 8 = nI Pe ∧ M'.1 9 = nI n ∧ (M'.1 11 = nI 1 ∨ (M'.1 11 = nI 0 ∧ Pe < n)) ∧ Fr2 M M') ∨
    (∃ m P V C' M', k < m ∧ m ≤ 16 ∧ f_X1_countCommands_L6 kC fc (nI (k + 1)) C = some (nI m, C') ∧ CT C' t n ∧ (f_X7_readsOne M).bind (fun M_9 => f_X7_execute_L36 kM fm M_9) = kM M' ∧ M'.1 8 = nI n ∧ M'.1 9 = nI n ∧ M'.1 11 = nI 0 ∧ M'.1 10 = nI m ∧ P k = p ∧ Seq t n k m P V ∧ (∀ j, k ≤ j → j < m → Told M' t n j (P j) (V j)) ∧ Fr2 M M' ∧ ∀ y, y < 5 * k → M'.2 6 y = M.2 6 y) := by
  intro d
  induction d with
  | zero =>
    intro k p fc fm C M h1 h2 h3 h4 h5 hC hc1 hM h8 h11 h10
    have := hC.2.1
    omega
  | succ d ih =>
    intro k p fc fm C M h1 h2 h3 h4 h5 hC hc1 hM h8 h11 h10
    obtain ⟨fc', rfl⟩ : ∃ z, fc = z + 1 := ⟨fc - 1, by omega⟩
    obtain ⟨fm', rfl⟩ : ∃ z, fm = z + 1 := ⟨fm - 1, by omega⟩
    have hn := hC.2.1
    have hlim : ¬ (60 : Int32) < nI (k + 1) := by
      rw [li_60]
      exact nI_nlt (by omega) (by omega)
    obtain ⟨g1, g2⟩ := c_command hC hc1 h3
    rcases good_or t n p with ⟨v, hv⟩ | ⟨Pe, hb⟩
    · obtain ⟨C1, a1, a2, a3, -⟩ := g1 v hv
      obtain ⟨M1, b1, b2⟩ := m_cmd hM h8 h11 h10 (by omega) hv.1
      obtain ⟨r1, r2, r3, r4, r5, r6, r7⟩ := b2.all
      rw [if_pos hv.2] at r3
      have hT := r7 hv.2
      have hle := (fr_le t n (wd v) p).2.1 h3
      have hlen := (fr_le t n (wd v) p).2.2 hv.2
      have h3v := (wd_cons v hv.1.1).2.2.2.2.1
      generalize hq : (fr t n (wd v) p).2.1 = q at *
      have r30 : M1.1 11 = 0 := r3
      have hh : f_X7_here M1 0 = some (if q < n then t q else -1) := by
        have := m_here r1 r2 hle (k := 0) (by omega)
        rw [Nat.add_zero] at this
        exact this
      by_cases e : q < n
      · obtain ⟨c1, c2, -⟩ := a2.2.2 q e
        by_cases s : t q = 59
        · -- one more
          obtain ⟨C2, c3⟩ : ∃ C2, C2 = wrI C1 1 (nI (q + 1)) := ⟨_, rfl⟩
          have hcc : f_X1_countCommands_L6 kC (fc' + 1) (nI (k + 1)) C = f_X1_countCommands_L6 kC fc' (nI (k + 1 + 1)) C2 := by
            rw [f_X1_countCommands_L6, if_neg hlim, a1, ob]
            dsimp only
            rw [if_neg (by decide), a3, a2.1, if_pos (nI_lt e (by omega)), if_pos (ib_nI (by omega) (by omega)), nI_clamp (by omega), c1, if_pos s, f_X1_skipSemicolon, ob, a3, c3, li_1, nI_add, nI_add]
          have hmm : (f_X7_readsOne M).bind (fun M_9 => f_X7_execute_L36 kM (fm' + 1) M_9) = (f_X7_readsOne (wrI M1 8 (nI (q + 1)))).bind (fun M_9 => f_X7_execute_L36 kM fm' M_9) := by
            rw [b1, ob, f_X7_execute_L36, if_pos r30, hh, ob, if_pos e, s, if_pos rfl, r2, li_1, nI_add]
          have hfr : Fr2 M (wrI M1 8 (nI (q + 1))) := ⟨fun j j8 j10 j11 => by rw [wrI_1, if_neg j8, r5.1 j j8 j10 j11], fun j y hj => r5.2 j y hj⟩
          have hI := ih (k + 1) (q + 1) fc' fm' C2 (wrI M1 8 (nI (q + 1))) (by omega) (by omega) (by omega) (by omega) (by omega) (by rw [c3]; exact a2.move rfl (fun _ => rfl)) (by rw [c3, wrI_1, if_pos rfl]) ⟨r1.1, r1.2.1, r1.2.2⟩ (by rw [wrI_1, if_pos rfl]) r3 r4
          rcases hI with ⟨Pe, C', M', i0, i1, i2, i3, i4, i5, i6, i7, i8⟩ | ⟨m, P, V, C', M', i1, i2, i3, i4, i5, i6, i7, i8, i9, i10, i11, i12, i13, i14⟩
          · exact Or.inl ⟨Pe, C', M', i0, hcc.trans i1, i2, i3, hmm.trans i4, i5, i6, i7, hfr.tr i8⟩
          · refine Or.inr ⟨m, fun j => if j = k then p else P j, fun j => if j = k then v else V j, C', M', by omega, i2, hcc.trans i3, i4, hmm.trans i5, i6, i7, i8, i9, by simp, ⟨fun j j1 j2 => ?_, fun j j1 j2 => ?_, ?_⟩, fun j j1 j2 => ?_, hfr.tr i13, fun y hy => by rw [i14 y (by omega)]; exact r6 y hy⟩
            · by_cases f : j = k
              · simp only [f, if_true]
                exact ⟨h3, hv⟩
              · simp only [f, if_false]
                exact i11.1 j (by omega) j2
            · by_cases f : j = k
              · have f2 : ¬ (k + 1 = k) := by omega
                simp only [f, f2, if_true, if_false]
                rw [hq]
                exact ⟨e, s, i10⟩
              · have f2 : ¬ (j + 1 = k) := by omega
                simp only [f, f2, if_false]
                exact i11.2.1 j (by omega) j2
            · have f : ¬ (m - 1 = k) := by omega
              simp only [f, if_false]
              exact i11.2.2
            · by_cases f : j = k
              · simp only [f, if_true]
                obtain ⟨t1, t2, t3⟩ := hT
                refine ⟨by rw [i14 _ (by omega)]; exact t1, fun x hx => ?_, fun h0 => by rw [i14 _ (by omega)]; exact t3 h0⟩
                have hx3 : x < 3 := by
                  have := fr_n35 (t := t) (n := n) (wd v) p hv.2
                  have := (wd_cons v hv.1.1).2.2.2.2.2
                  omega
                rw [i14 _ (by omega)]
                exact t2 x hx
              · simp only [f, if_false]
                exact i12 j (by omega) j2
        · -- no semicolon
          refine Or.inl ⟨q, C1, M1, hle, ?_, a2, a3, ?_, r2, r1.1, Or.inr ⟨r3, e⟩, r5⟩
          · rw [f_X1_countCommands_L6, if_neg hlim, a1, ob]
            dsimp only
            rw [if_neg (by decide), a3, a2.1, if_pos (nI_lt e (by omega)), if_pos (ib_nI (by omega) (by omega)), nI_clamp (by omega), c1, if_neg s]
          · rw [b1, ob, f_X7_execute_L36, if_pos r30, hh, ob, if_pos e, if_neg s]
      · have hqn : q = n := by omega
        refine Or.inr ⟨k + 1, fun _ => p, fun _ => v, C1, M1, by omega, by omega, ?_, a2, ?_, by rw [r2, hqn], r1.1, r3, r4, rfl, ⟨fun j _ _ => ⟨h3, hv⟩, fun j j1 j2 => by omega, by rw [hq, hqn]⟩, fun j j1 j2 => ?_, r5, r6⟩
        · rw [f_X1_countCommands_L6, if_neg hlim, a1, ob]
          dsimp only
          rw [if_neg (by decide), a3, a2.1, if_neg (nI_nlt (by omega) (by omega))]
        · have hm : ¬ (-1 : Int32) = 59 := by decide
          rw [b1, ob, f_X7_execute_L36, if_pos r30, hh, ob, if_neg e, if_neg hm]
        · have : j = k := by omega
          rw [this]
          exact hT
    · obtain ⟨C1, a1, a2, a3⟩ := g2 Pe hb
      have hcc : f_X1_countCommands_L6 kC (fc' + 1) (nI (k + 1)) C = some (-1, C1) := by
        rw [f_X1_countCommands_L6, if_neg hlim, a1, ob]
        dsimp only
        rw [if_pos rfl]
      rcases hb with ⟨hno, rfl⟩ | ⟨v, hd, hf, rfl⟩
      · obtain ⟨r, hr⟩ := m_cmdNo hM h8 h10 h3 (by omega) hno
        refine Or.inl ⟨Pe, C1, wrI (wrI (wrA M 6 (nI (5 * k)) r) 11 1) 10 (nI (k + 1)), h3, hcc, a2, a3, ?_, h8, hM.1, Or.inl rfl, ⟨fun j j8 j10 j11 => ?_, fun j y hj => ?_⟩⟩
        · rw [hr, ob, f_X7_execute_L36]
          have : ¬ (wrI (wrI (wrA M 6 (nI (5 * k)) r) 11 1) 10 (nI (k + 1))).1 11 = 0 := by
            rw [wrI_1, if_neg (by omega), wrI_1, if_pos rfl]
            decide
          rw [if_neg this]
        · rw [wrI_1, if_neg j10, wrI_1, if_neg j11, wrA_1]
        · rw [wrI_2, wrI_2, wr_same _ _ _ _ _ _ hj]
      · obtain ⟨M1, b1, b2⟩ := m_cmd hM h8 h11 h10 (by omega) hd
        obtain ⟨r1, r2, r3, r4, r5, r6, r7⟩ := b2.all
        rw [if_neg (by rw [hf]; decide)] at r3
        refine Or.inl ⟨_, C1, M1, (fr_le t n _ p).2.1 h3, hcc, a2, a3, ?_, r2, r1.1, Or.inl r3, r5⟩
        have : ¬ M1.1 11 = 0 := by rw [r3]; decide
        rw [b1, ob, f_X7_execute_L36, if_neg this]
end TEXT6
