/-! .. addLot, audit -/
def apS (S : Mem) (c n : Nat) (x1 x2 x3 x4 : Int32) : Mem := wrI (wrI (wrA (wrA (wrA (wrA (wrA (wrA (wrA S 0 (nI c) (nI n)) 1 (nI c) x1) 2 (nI c) x2) 3 (nI c) x3) 4 (nI c) x4) 5 (nI c) (nI 1)) 6 (nI c) (nI 0)) 0 (nI (c + 1))) 1 (nI (n + 1))
def apM (M : Mem) (c n : Nat) (x1 x2 x3 x4 : Int32) : Mem := wrA (wrA (wrA (wrA (wrA (wrA (wrA (wrA (wrA M 0 (nI (8 + 7 * c + 0)) (nI n)) 0 (nI (8 + 7 * c + 1)) x1) 0 (nI (8 + 7 * c + 2)) x2) 0 (nI (8 + 7 * c + 3)) x3) 0 (nI (8 + 7 * c + 4)) x4) 0 (nI (8 + 7 * c + 5)) (nI 1)) 0 (nI (8 + 7 * c + 6)) (nI 0)) 0 (nI 1) (nI (c + 1))) 0 (nI 0) (nI (n + 1))
theorem apS_o {S : Mem} {c n : Nat} {x1 x2 x3 x4 : Int32} (hc : c ≤ 16) {j i : Nat} (h : i ≠ c ∨ 7 ≤ j) : (apS S c n x1 x2 x3 x4).2 j i = S.2 j i := by
  unfold apS
  simp only [wrI_2]
  rw [wr_at _ _ (by omega), if_neg (by omega), wr_at _ _ (by omega), if_neg (by omega), wr_at _ _ (by omega), if_neg (by omega), wr_at _ _ (by omega), if_neg (by omega), wr_at _ _ (by omega), if_neg (by omega), wr_at _ _ (by omega), if_neg (by omega), wr_at _ _ (by omega), if_neg (by omega)]
theorem apS_n {S : Mem} {c n : Nat} {x1 x2 x3 x4 : Int32} (hc : c ≤ 16) : (apS S c n x1 x2 x3 x4).2 0 c = nI n ∧ (apS S c n x1 x2 x3 x4).2 1 c = x1 ∧ (apS S c n x1 x2 x3 x4).2 2 c = x2 ∧ (apS S c n x1 x2 x3 x4).2 3 c = x3 ∧ (apS S c n x1 x2 x3 x4).2 4 c = x4 ∧ (apS S c n x1 x2 x3 x4).2 5 c = nI 1 ∧ (apS S c n x1 x2 x3 x4).2 6 c = nI 0 := by
  unfold apS
  simp (disch := omega) [wrI_2, wr_at]
theorem apM_o {M : Mem} {c n : Nat} {x1 x2 x3 x4 : Int32} (hc : c ≤ 16) {j i : Nat} (h : j ≠ 0 ∨ (i ≠ 0 ∧ i ≠ 1 ∧ (i < 8 + 7 * c ∨ 8 + 7 * c + 7 ≤ i))) : (apM M c n x1 x2 x3 x4).2 j i = M.2 j i := by
  unfold apM
  rw [wr_at _ _ (by omega), if_neg (by omega), wr_at _ _ (by omega), if_neg (by omega), wr_at _ _ (by omega), if_neg (by omega), wr_at _ _ (by omega), if_neg (by omega), wr_at _ _ (by omega), if_neg (by omega), wr_at _ _ (by omega), if_neg (by omega), wr_at _ _ (by omega), if_neg (by omega), wr_at _ _ (by omega), if_neg (by omega), wr_at _ _ (by omega), if_neg (by omega)]
theorem apM_n {M : Mem} {c n : Nat} {x1 x2 x3 x4 : Int32} (hc : c ≤ 16) : (apM M c n x1 x2 x3 x4).2 0 0 = nI (n + 1) ∧ (apM M c n x1 x2 x3 x4).2 0 1 = nI (c + 1) ∧ (apM M c n x1 x2 x3 x4).2 0 (8 + 7 * c + 0) = nI n ∧ (apM M c n x1 x2 x3 x4).2 0 (8 + 7 * c + 1) = x1 ∧ (apM M c n x1 x2 x3 x4).2 0 (8 + 7 * c + 2) = x2 ∧ (apM M c n x1 x2 x3 x4).2 0 (8 + 7 * c + 3) = x3 ∧ (apM M c n x1 x2 x3 x4).2 0 (8 + 7 * c + 4) = x4 ∧ (apM M c n x1 x2 x3 x4).2 0 (8 + 7 * c + 5) = nI 1 ∧ (apM M c n x1 x2 x3 x4).2 0 (8 + 7 * c + 6) = nI 0 := by
  unfold apM
  refine ⟨?_, ?_, ?_, ?_, ?_, ?_, ?_, ?_, ?_⟩ <;> simp (disch := omega) only [wr_at, true_and, and_self, eq_self, if_true, if_neg]
theorem Rel.ap {S M : Mem} {c t q n : Nat} {x1 x2 x3 x4 : Int32} (R : Rel S (M.2 0) c t q) (hc : c < 16) : Rel (apS S c n x1 x2 x3 x4) ((apM M c n x1 x2 x3 x4).2 0) (c + 1) t q := by
  have ht := R.t
  have hq := R.q
  obtain ⟨⟨a1, a2, a3, a4⟩, ⟨b1, b2, b3⟩, ⟨c1, c2, c3⟩, ⟨d1, d2, d3, d4⟩, e1, e2, e3⟩ := R
  obtain ⟨m0, m1, m2, m3, m4, m5, m6, m7, m8⟩ := apM_n (M := M) (n := n) (x1 := x1) (x2 := x2) (x3 := x3) (x4 := x4) (c := c) (by omega)
  obtain ⟨s0, s1, s2, s3, s4, s5, s6⟩ := apS_n (S := S) (n := n) (x1 := x1) (x2 := x2) (x3 := x3) (x4 := x4) (c := c) (by omega)
  refine ⟨⟨?_, ?_, m1, by omega⟩, ⟨?_, ?_, b3⟩, ⟨?_, ?_, c3⟩, ⟨?_, ?_, ?_, ?_⟩, fun p' hp' j' hj' => ?_, fun k hk => ⟨?_, ?_⟩, fun k hk => ?_⟩
  · rw [m0]; rfl
  · rfl
  · exact b1
  · rw [apM_o (by omega) (by omega), b2]
  · exact c1
  · rw [apM_o (by omega) (by omega), c2]
  · rw [apM_o (by omega) (by omega), d1]; rfl
  · rw [apM_o (by omega) (by omega), d2]; rfl
  · rw [apM_o (by omega) (by omega), d3]; rfl
  · rw [apM_o (by omega) (by omega), d4]; rfl
  · by_cases e : p' = c
    · subst e
      rcases j7 hj' with e | e | e | e | e | e | e <;> subst e
      · rw [m2, s0]
      · rw [m3, s1]
      · rw [m4, s2]
      · rw [m5, s3]
      · rw [m6, s4]
      · rw [m7, s5]
      · rw [m8, s6]
    · rw [apM_o (by omega) (by omega), apS_o (by omega) (by omega), e1 p' (by omega) j' hj']
  · rw [apM_o (by omega) (by omega), apS_o (by omega) (by omega), (e2 k hk).1]
  · rw [apM_o (by omega) (by omega), apS_o (by omega) (by omega), (e2 k hk).2]
  · rw [apM_o (by omega) (by omega), apS_o (by omega) (by omega), e3 k hk]
theorem Inv.ap {S : Mem} {c t q n : Nat} {x1 x2 x3 x4 : Int32} (I : Inv S c t q) (hc : c < 16) (h1 : inR x1 97 101) (h2 : inR x2 1 99) (h3 : inR x3 1 99) (h4 : inR x4 0 23) (hb : ∀ p, p < c → S.2 4 p ≠ x4) : Inv (apS S c n x1 x2 x3 x4) (c + 1) t q := by
  obtain ⟨s0, s1, s2, s3, s4, s5, s6⟩ := apS_n (S := S) (n := n) (x1 := x1) (x2 := x2) (x3 := x3) (x4 := x4) (c := c) (by omega)
  obtain ⟨I1, I2, I3, I4⟩ := I
  refine ⟨⟨fun p hp => ?_, fun x y hx hy e => ?_⟩, TrfOK.same (T := S) rfl (fun j k _ hj => apS_o (by omega) (by omega)) I2, ⟨fun k hk => ?_, fun k l hk hl e => ?_⟩, I4⟩
  · by_cases e : p = c
    · subst e
      unfold lotOK
      rw [s1, s2, s3, s4, s5, s6]
      exact ⟨h1, h2, h3, h4, Or.inr rfl, Or.inl rfl, fun _ => rfl⟩
    · exact (I1.1 p (by omega)).same (fun j _ => apS_o (by omega) (by omega))
  · by_cases ex : x = c
    · by_cases ey : y = c
      · omega
      · rw [ex, s4, apS_o (by omega) (by omega)] at e
        exact absurd e.symm (hb y (by omega))
    · by_cases ey : y = c
      · rw [ey, s4, apS_o (by omega) (by omega)] at e
        exact absurd e (hb x (by omega))
      · rw [apS_o (by omega) (by omega), apS_o (by omega) (by omega)] at e
        exact I1.2 x y (by omega) (by omega) e
  · obtain ⟨p, hp, e⟩ := I3.1 k hk
    exact ⟨p, by omega, by rw [apS_o (by omega) (by omega), apS_o (by omega) (by omega), e]⟩
  · rw [apS_o (by omega) (by omega), apS_o (by omega) (by omega)] at e
    exact I3.2 k l hk hl e
section OPS4
variable {S M : Mem} {N : Nat}
theorem op_add (s : St N S (M.2 0)) (hN : N < 2 ^ 30) (x1 x2 x3 x4 : Int32) : Op N S M [(-2, 1), (-3, 2), (-4, 3), (-5, 4)] (f_X4_takeIn S x1 x2 x3 x4) (f_X7_adds M x1 x2 x3 x4) := by
  obtain ⟨c, t, q, R, I, D⟩ := s
  have hc := R.c
  have cc := R.c1
  have mc := R.c2
  rcases bay_cases x4 with ⟨b1, b2, b3⟩ | ⟨b1, b2, b3⟩
  · refine Or.inl ⟨(-2, 1), by simp, ?_, ?_⟩
    · simp only [f_X4_takeIn, b1, ob, if_true]
    · simp only [f_X7_adds, b2, ob, if_true]
  · rcases kind_cases x1 with ⟨k1, k2, k3⟩ | ⟨k1, k2, k3⟩
    · refine Or.inl ⟨(-3, 2), by simp, ?_, ?_⟩
      · simp only [f_X4_takeIn, b1, k1, ob, if_true, if_false, n11, ite_self]
      · simp only [f_X7_adds, b2, k2, ob, if_true, if_false, n11]
    · rcases in_cases x2 1 99 (by omega) (by omega) with ⟨q1, q2⟩ | ⟨q1, q2⟩
      · refine Or.inl ⟨(-3, 2), by simp, ?_, ?_⟩
        · rcases q2 with q2 | q2
          · simp only [f_X4_takeIn, b1, k1, li_1, li_99, q2, ob, if_true, if_false, n11, n1z, ite_self]
          · have q3 : ¬ x2 < nI 1 := fun h => by
              rw [Int32.lt_iff_toInt_lt, nI_toInt (by omega)] at h q2
              omega
            simp only [f_X4_takeIn, b1, k1, li_1, li_99, q2, q3, ob, if_true, if_false, n11, n1z, ite_self]
        · simp only [f_X7_adds, b2, k2, li_1, li_99, q1, ob, if_true, if_false, n11, n1z]
      · rcases in_cases x3 1 99 (by omega) (by omega) with ⟨p1, p2⟩ | ⟨p1, p2⟩
        · refine Or.inl ⟨(-3, 2), by simp, ?_, ?_⟩
          · obtain ⟨v2, g1, g2, rfl⟩ := q2
            rcases p2 with p2 | p2
            · simp (disch := omega) only [f_X4_takeIn, b1, k1, li_99, p2, n11, n1z, ite_self, nI_leI, nI_ltI, nI_eq, nI_add, pk_mul, pk_sub, nI_clamp, ib_nI, if_pos, if_neg, if_true, if_false, eq_self, ob, li_1]
            · have p3 : ¬ x3 < nI 1 := fun h => by
                rw [Int32.lt_iff_toInt_lt, nI_toInt (by omega)] at h p2
                omega
              simp (disch := omega) only [f_X4_takeIn, b1, k1, li_99, p2, p3, n11, n1z, ite_self, nI_leI, nI_ltI, nI_eq, nI_add, pk_mul, pk_sub, nI_clamp, ib_nI, if_pos, if_neg, if_true, if_false, eq_self, ob, li_1]
          · simp only [f_X7_adds, b2, k2, li_1, li_99, q1, p1, ob, if_true, if_false, n11, n1z]
        · have q2' := q2
          have p2' := p2
          obtain ⟨v2, g1, g2, rfl⟩ := q2
          obtain ⟨v3, g3, g4, rfl⟩ := p2
          by_cases c16 : c = 16
          · refine Or.inl ⟨(-4, 3), by simp, ?_, ?_⟩
            · simp (disch := omega) only [f_X4_takeIn, b1, k1, cc, li_99, li_16, n11, n1z, ite_self, nI_leI, nI_ltI, nI_eq, nI_add, pk_mul, pk_sub, nI_clamp, ib_nI, if_pos, if_neg, if_true, if_false, eq_self, ob, li_1]
            · simp (disch := omega) only [f_X7_adds, b2, k2, li_1, li_99, q1, p1, mc, li_16, n11, n1z, nI_leI, nI_ltI, nI_eq, nI_add, pk_mul, pk_sub, nI_clamp, ib_nI, if_pos, if_neg, if_true, if_false, eq_self, ob]
          · rcases fnd_at (g := S.2 4) (x := x4) (c := c) with ⟨h1, h2⟩ | ⟨p, h1, h2, h3, h4⟩
            · obtain ⟨n, -, hn, en⟩ := D.1
              have en' : M.2 0 0 = nI n := R.nid.trans en
              have ek : vp_nar .char x1 = x1 := by
                obtain ⟨v, -, h, rfl⟩ := k3
                exact vnc (by omega)
              have R' := R.ap (n := n) (x1 := x1) (x2 := nI v2) (x3 := nI v3) (x4 := x4) (by omega)
              have I' := I.ap (n := n) (by omega) k3 q2' p2' b3 h2
              refine Or.inr ⟨n, _, wrI (apM M c n x1 (nI v2) (nI v3) x4) 7 (nI n), by omega, ?_, ?_, by rw [wrI_1, if_pos rfl], ⟨fun k hk => by rw [wrI_1, if_neg hk]; rfl, fun j y h0 _ => by rw [wrI_2, apM_o (by omega) (Or.inl h0)]⟩, c + 1, t, q, R', I', ?_⟩
              · simp (disch := omega) only [f_X4_takeIn, f_X3_append, b1, k1, cc, en, ek, c_slotAt R.c1 R.c, h1, oi_n, m1_lt, m1_lt', li_0, li_99, li_16, vnn0, vnn1, n11, n1z, n1z', nI_leI, nI_ltI, nI_eq, nI_add, pk_mul, pk_sub, nI_clamp, ib_nI, if_pos, if_neg, if_true, if_false, eq_self, ob, li_1]
                rfl
              · obtain ⟨m0, m1, -⟩ := apM_n (M := M) (n := n) (x1 := x1) (x2 := nI v2) (x3 := nI v3) (x4 := x4) (c := c) (by omega)
                have z0 : (0 : Int32) = nI 0 := rfl
                simp (disch := omega) only [f_X7_adds, b2, k2, li_1, li_2, li_3, li_4, li_5, li_6, li_99, q1, p1, mc, li_16, n11, n1z, nI_m1, nI_m1', m1_lt, m1_lt', m1_le, m1_le', n01, n10, n1z, n1z', n11, r_inside R, h1, oi_n, en', m_sets, f_X7_done, wr_at, true_and, and_self, nI_leI, nI_ltI, nI_eq, nI_add, pk_mul, pk_sub, nI_clamp, ib_nI, if_pos, if_neg, if_true, if_false, eq_self, ob, li_0]
                rfl
              · refine ⟨⟨n + 1, by omega, by omega, rfl⟩, fun p hp => ?_⟩
                by_cases e : p = c
                · rw [e, (apS_n (by omega)).1]
                  exact ⟨n, by omega, by omega, rfl⟩
                · rw [apS_o (by omega) (by omega)]
                  exact (D.2 p (by omega)).mono (by omega)
            · refine Or.inl ⟨(-5, 4), by simp, ?_, ?_⟩
              · simp (disch := omega) only [f_X4_takeIn, b1, k1, cc, c_slotAt R.c1 R.c, h1, oi_s, nI_pos, li_99, li_16, n11, n1z, nI_leI, nI_ltI, nI_eq, nI_add, pk_mul, pk_sub, nI_clamp, ib_nI, if_pos, if_neg, if_true, if_false, eq_self, ob, li_1]
              · simp (disch := omega) only [f_X7_adds, b2, k2, li_1, li_99, q1, p1, mc, li_16, nI_m1, nI_m1', m1_lt, m1_lt', m1_le, m1_le', n01, n10, n1z, n1z', n11, r_inside R, h1, oi_s, nI_leI, nI_ltI, nI_eq, nI_add, pk_mul, pk_sub, nI_clamp, ib_nI, if_pos, if_neg, if_true, if_false, eq_self, ob]
end OPS4
