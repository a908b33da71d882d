/-! days, and the days that are told ahead -/
section DAYS
variable {N : Nat} {S : Mem} {c t q : Nat}
theorem Gd.day (h : Gd N S c t q) : ∃ (S' : Mem) (g c' q' : Nat), f_X4_letOneDayPass S = some S' ∧ Gd N S' c' t q' ∧ S'.1 6 = S.1 6 + nI g ∧ g + c' = c ∧ S'.1 3 = S.1 3 ∧ S'.1 4 = S.1 4 ∧ ∀ b, b < 24 → dmp S' c' b → Rk (opn S c) (dmp S c) 24 b := by
  have hc := h.c16
  obtain ⟨x, x1, x2⟩ := c_baysOfDamp h.c1 h.c16 h.L
  obtain ⟨S1, s1, s2⟩ := c_spread h.c1 h.c16 h.L x2
  have I1 : Inv S1 c t q := ⟨s2.lots h.L, TrfOK.same (T := S) (by rw [s2.1]) (fun j k _ hj => s2.2.1 j k (by omega)) h.T, h.Q.same (fun p _ => s2.2.1 0 p (by omega)) (fun p _ => s2.2.1 9 p (by omega)), by rw [s2.1]; exact h.bd⟩
  have c1 : S1.1 0 = nI c := by rw [s2.1, h.c1]
  obtain ⟨S3, g, c', q', a1, a2, a3, a4, a5, a6, a7, a8⟩ := dayC x2 (fun S_16 => some (wrI S_16 5 ((S_16.1 5) + 1))) c 40 S1 c t q (by omega) (Nat.le_refl c) ⟨c1, hc⟩ ⟨by rw [s2.1, h.q1], h.q16⟩ I1
  obtain ⟨σ, b1, b2, b3⟩ := a5
  have i0 : ∀ p, p < c' → S3.2 0 p = S.2 0 (σ p) := fun p hp => (b3 p hp 0 (by omega) (by omega)).trans (s2.2.1 0 _ (by omega))
  have e1 : S3.1 1 = S.1 1 := by rw [a6 1 (by omega) (by omega) (by omega), s2.1]
  have as : Asc S3 c' := by
    refine ⟨fun p p' h1 h2 => ?_, fun p hp => ?_⟩
    · rw [i0 p (by omega), i0 p' h2]
      exact h.A.1 _ _ (b2 p p' h1 h2) (b1 p' h2)
    · rw [i0 p hp, e1]
      exact h.A.2 _ (b1 p hp)
  refine ⟨wrI S3 5 (S3.1 5 + 1), g, c', q', ?_, ⟨a2, ⟨?_, h.t6⟩, a3, a4.num (by omega) (fun z => absurd z (by omega)), ⟨?_, fun p hp => ?_⟩, as⟩, ?_, a8, ?_, ?_, ?_⟩
  · rw [f_X4_letOneDayPass, x1, ob, s1, ob, c1, a1]
  · rw [wrI_1, if_neg (by omega), a6 2 (by omega) (by omega) (by omega), s2.1, h.t1]
  · rw [wrI_1, if_neg (by omega), e1]
    exact h.D.1
  · show inR (S3.2 0 p) 0 N
    rw [i0 p hp]
    exact h.D.2 _ (b1 p hp)
  · rw [wrI_1, if_neg (by omega), a7, s2.1]
  · rw [wrI_1, if_neg (by omega), a6 3 (by omega) (by omega) (by omega), s2.1]
  · rw [wrI_1, if_neg (by omega), a6 4 (by omega) (by omega) (by omega), s2.1]
  · intro b hb hd
    obtain ⟨p, hp, p4, p6⟩ := hd
    have p4 : S3.2 4 p = nI b := p4
    have p6 : S3.2 6 p = 1 := p6
    have hs := b1 p hp
    have q4 : S.2 4 (σ p) = nI b := by rw [← s2.2.1 4 (σ p) (by omega), ← b3 p hp 4 (by omega) (by omega), p4]
    have q6 : S1.2 6 (σ p) = 1 := by rw [← b3 p hp 6 (by omega) (by omega), p6]
    have hop := dmp_opn h.L
    obtain ⟨r1, r2⟩ := s2.2.2 (σ p) hs b q4 hb
    by_cases g9 : S.2 5 (σ p) = 0 ∧ Risk (Bay S (fun p => S.2 6 p = 1) c) b
    · have ho : opn S c b := ⟨σ p, hs, q4, g9.1⟩
      rcases g9.2 with ⟨k1, k2⟩ | ⟨k1, k2⟩
      · exact Rk.next ((Rk.zero hop (show b - 1 < 24 by omega) k2).mono (by omega)) hb (by omega) ho
      · exact Rk.next ((Rk.zero hop k1 k2).mono (by omega)) hb (by omega) ho
    · rw [r2 g9] at q6
      exact (Rk.zero hop hb ⟨σ p, hs, q4, q6⟩).mono (by omega)
theorem Gd.days {e : Nat} (he : e ≤ 30) (y : Int32) (kC : Mem → Option (Int32 × Mem)) :
    ∀ (d n i : Nat) (S : Mem) (c q : Nat), i + d = e → d < n → Gd N S c t q →
      ∃ (S' : Mem) (g c' q' : Nat), f_X4_letPass_L21 (nI e) y kC n (nI i) S = kC S' ∧ Gd N S' c' t q' ∧ S'.1 6 = S.1 6 + nI g ∧ g + c' = c ∧ S'.1 3 = S.1 3 ∧ S'.1 4 = S.1 4 := by
  intro d
  induction d with
  | zero =>
    intro n i S c q h1 h2 h
    obtain ⟨n', rfl⟩ : ∃ n', n = n' + 1 := ⟨n - 1, by omega⟩
    have hi : i = e := by omega
    subst hi
    exact ⟨S, 0, c, q, by rw [f_X4_letPass_L21, if_pos (nI_le (Nat.le_refl i) (by omega))], h, (Int32.add_zero _).symm, Nat.zero_add c, rfl, rfl⟩
  | succ d ih =>
    intro n i S c q h1 h2 h
    obtain ⟨n', rfl⟩ : ∃ n', n = n' + 1 := ⟨n - 1, by omega⟩
    have hle : ¬ nI e ≤ nI i := nI_ge (by omega) (by omega)
    obtain ⟨S1, g1, c1, q1, a1, a2, a3, a4, a5, a6, -⟩ := h.day
    obtain ⟨S', g', c', q', b1, b2, b3, b4, b5, b6⟩ := ih n' (i + 1) S1 c1 q1 (by omega) (by omega) a2
    refine ⟨S', g1 + g', c', q', ?_, b2, by rw [b3, a3, Int32.add_assoc, nI_add], by omega, by rw [b5, a5], by rw [b6, a6]⟩
    rw [← b1, f_X4_letPass_L21, if_neg hle, a1, ob, li_1, nI_add]
theorem Gd.pass (h : Gd N S c t q) {e : Nat} (e1 : 1 ≤ e) (e2 : e ≤ 30) : ∃ (S' : Mem) (g c' q' : Nat), f_X4_letPass S (nI e) = some (nI g, S') ∧ Gd N S' c' t q' ∧ S'.1 6 = S.1 6 + nI g ∧ g + c' = c ∧ S'.1 3 = S.1 3 ∧ S'.1 4 = S.1 4 := by
  have h1 : ¬ nI e < 1 := by rw [li_1, nI_ltI (by omega) (by omega)]; omega
  have h2 : nI e ≤ 30 := by rw [li_30, nI_leI (by omega) (by omega)]; omega
  obtain ⟨S', g, c', q', a1, a2, a3, a4, a5, a6⟩ := Gd.days (N := N) (t := t) e2 (S.1 6) (fun S_6 => some (((S_6.1 6) - (S.1 6)), S_6)) e 40 0 S c q (by omega) (by omega) h
  refine ⟨S', g, c', q', ?_, a2, a3, a4, a5, a6⟩
  rw [f_X4_letPass, if_neg h1, if_pos h2]
  refine a1.trans ?_
  rw [a3, Int32.add_sub_self]
theorem Gd.pass1 (h : Gd N S c t q) : ∃ (S' : Mem) (g c' q' : Nat), f_X4_letPass S (nI 1) = some (nI g, S') ∧ Gd N S' c' t q' ∧ dmN S' c' ≤ rch S c := by
  obtain ⟨S', g, c', q', a1, a2, a3, -, -, -, a7⟩ := h.day
  refine ⟨S', g, c', q', ?_, a2, cnt_mono 24 a7⟩
  have h1 : ¬ nI 1 < 1 := by decide
  have h2 : nI 1 ≤ 30 := by decide
  have h3 : ¬ nI 1 ≤ 0 := by decide
  have h4 : nI 1 ≤ 0 + 1 := by decide
  rw [f_X4_letPass, if_neg h1, if_pos h2, f_X4_letPass_L21, if_neg h3, a1, ob, f_X4_letPass_L21, if_pos h4, a3, Int32.add_sub_self]
theorem g_pass (h : Gd N S c t q) {e : Nat} (e2 : e ≤ 30) : (e = 0 ∧ f_X4_letPass S (nI e) = some (numE eIAE, S)) ∨ ∃ (S' : Mem) (g c' q' : Nat), 1 ≤ e ∧ g ≤ 16 ∧ f_X4_letPass S (nI e) = some (nI g, S') ∧ Gd N S' c' t q' ∧ S'.1 6 = S.1 6 + nI g ∧ g + c' = c ∧ S'.1 3 = S.1 3 ∧ S'.1 4 = S.1 4 := by
  by_cases e0 : e = 0
  · subst e0
    refine Or.inl ⟨rfl, ?_⟩
    rw [f_X4_letPass, if_pos (by decide)]
    rfl
  · obtain ⟨S', g, c', q', a1, a2, a3, a4, a5, a6⟩ := h.pass (e := e) (by omega) e2
    have hc := h.c16
    exact Or.inr ⟨S', g, c', q', by omega, by omega, a1, a2, a3, a4, a5, a6⟩
/-- alike by their row: as many damp lots -/
theorem st_damp {N' : Nat} {T M : Mem} (s : St N S (M.2 0)) (s' : St N' T (M.2 0)) : f_X3_countDamp S = f_X3_countDamp T := by
  obtain ⟨c1, t1, q1, R, I, -⟩ := s
  obtain ⟨c2, t2, q2, R', I', -⟩ := s'
  rw [(r_damp R I.1).1, (r_damp R' I'.1).1, ← (r_damp R I.1).2, ← (r_damp R' I'.1).2]
theorem Same.dmp {T : Mem} (h : Same T S c t q) : dmp T c = dmp S c ∧ opn T c = opn S c := by
  refine ⟨funext fun b => propext ⟨fun ⟨p, hp, a, b⟩ => ⟨p, hp, ?_, ?_⟩, fun ⟨p, hp, a, b⟩ => ⟨p, hp, ?_, ?_⟩⟩, funext fun b => propext ⟨fun ⟨p, hp, a, b⟩ => ⟨p, hp, ?_, ?_⟩, fun ⟨p, hp, a, b⟩ => ⟨p, hp, ?_, ?_⟩⟩⟩
  · rw [← h.2.1 4 p hp (by omega)]; exact a
  · show S.2 6 p = 1
    rw [← h.2.1 6 p hp (by omega)]; exact b
  · rw [h.2.1 4 p hp (by omega)]; exact a
  · show T.2 6 p = 1
    rw [h.2.1 6 p hp (by omega)]; exact b
  · rw [← h.2.1 4 p hp (by omega)]; exact a
  · show S.2 5 p = 0
    rw [← h.2.1 5 p hp (by omega)]; exact b
  · rw [h.2.1 4 p hp (by omega)]; exact a
  · show T.2 5 p = 0
    rw [h.2.1 5 p hp (by omega)]; exact b
theorem Gd.after (h : Gd N S c t q) (Fc : Mem) {e : Nat} (he : e ≤ 30) : ∃ (F1 F2 : Mem) (rr : Nat), f_X4_copyFrom Fc S = some F1 ∧ (e = 0 → F2 = F1) ∧ (e ≠ 0 → ∃ z, f_X4_letPass F1 (nI e) = some (z, F2)) ∧ f_X3_countDamp F2 = some (nI rr) ∧ rr ≤ 24 ∧ (e = 0 → rr = dmN S c) ∧ (e = 1 → rr ≤ rch S c) ∧ ∀ (r : Int32) (S' : Mem), 1 ≤ e → f_X4_letPass S (nI e) = some (r, S') → f_X3_countDamp S' = some (nI rr) := by
  obtain ⟨F1, f1⟩ := h.copies Fc
  obtain ⟨sm, g⟩ := h.copy f1
  obtain ⟨d1, d2⟩ := sm.dmp
  by_cases e0 : e = 0
  · refine ⟨F1, F1, dmN F1 c, f1, fun _ => rfl, fun z => absurd e0 z, by rw [g.damps, g.dampN], dmN_24, fun _ => by rw [dmN, d1], fun z => by omega, fun _ _ z => by omega⟩
  · have key : ∀ (F2 : Mem) (z : Int32), f_X4_letPass F1 (nI e) = some (z, F2) → ∀ (r : Int32) (S' : Mem), f_X4_letPass S (nI e) = some (r, S') → f_X3_countDamp S' = f_X3_countDamp F2 := by
      intro F2 z hz r S' hr
      have sF : St N F1 ((mF S).2 0) := ⟨c, t, q, h.rel.same sm, g.I, g.D⟩
      obtain ⟨S9, g9, c9, q9, k1, -, -, k4, -⟩ := h.pass (e := e) (by omega) he
      obtain ⟨F9, m9, c8, q8, l1, -, -, l4, -⟩ := g.pass (e := e) (by omega) he
      have hc := h.c16
      rcases op_pass h.st (nI e) with ⟨z9, hz9, u1, -⟩ | ⟨r1, S1, M1, -, u1, u2, -, -, u5⟩
      · have := List.mem_singleton.mp hz9
        subst this
        have u1 := congrArg Prod.fst (Option.some.inj (u1.symm.trans k1))
        exact absurd u1 (neg3_ne (by omega))
      · rcases op_pass sF (nI e) with ⟨z9, hz9, v1, -⟩ | ⟨r2, F3, M2, -, v1, v2, -, -, v5⟩
        · have := List.mem_singleton.mp hz9
          subst this
          have v1 := congrArg Prod.fst (Option.some.inj (v1.symm.trans l1))
          exact absurd v1 (neg3_ne (by omega))
        · obtain ⟨-, rfl⟩ := sm2 (Option.some.inj (u1.symm.trans hr))
          obtain ⟨-, rfl⟩ := sm2 (Option.some.inj (v1.symm.trans hz))
          obtain ⟨-, rfl⟩ := sm2 (Option.some.inj (u2.symm.trans v2))
          exact st_damp u5 v5
    by_cases e1 : e = 1
    · subst e1
      obtain ⟨F2, g2, c2, q2, b1, b2, b3⟩ := g.pass1
      refine ⟨F1, F2, dmN F2 c2, f1, fun z => absurd z e0, fun _ => ⟨_, b1⟩, by rw [b2.damps, b2.dampN], dmN_24, fun z => absurd z e0, fun _ => ?_, fun r S' _ hr => ?_⟩
      · rw [rch, d1, d2] at b3
        exact b3
      · rw [key F2 _ b1 r S' hr, b2.damps, b2.dampN]
    · obtain ⟨F2, g2, c2, q2, b1, b2, -⟩ := g.pass (e := e) (by omega) he
      refine ⟨F1, F2, dmN F2 c2, f1, fun z => absurd z e0, fun _ => ⟨_, b1⟩, by rw [b2.damps, b2.dampN], dmN_24, fun z => absurd z e0, fun z => absurd z e1, fun r S' _ hr => ?_⟩
      rw [key F2 _ b1 r S' hr, b2.damps, b2.dampN]
end DAYS
