/-! changes, class and model side by side -/
theorem nI_m1 {a : Nat} (h : a < 2 ^ 31) : (nI a = -1) = False := by
  refine eq_false (fun h9 => ?_)
  have := congrArg Int32.toInt h9
  rw [nI_toInt h] at this
  simp at this
theorem m1_lt : ((-1 : Int32) < nI 0) = True := eq_true (by decide)
theorem m1_le : (nI 0 ≤ (-1 : Int32)) = False := eq_false (by decide)
theorem nI_m1' {a : Nat} (h : a < 2 ^ 31) : (nI a = -(nI 1)) = False := nI_m1 h
theorem m1_lt' : (-(nI 1) < nI 0) = True := eq_true (by decide)
theorem m1_le' : (nI 0 ≤ -(nI 1)) = False := eq_false (by decide)
theorem vnn0 : vp_nar .boolean (nI 0) = nI 0 := vn0
theorem vnn1 : vp_nar .boolean (nI 1) = nI 1 := vn1
theorem n01 : (nI 0 = nI 1) = False := eq_false (by decide)
theorem n10 : (nI 1 = nI 0) = False := eq_false (by decide)
theorem n1z : (nI 1 = 0) = False := eq_false (by decide)
theorem n1z' : ((1 : Int32) = nI 0) = False := eq_false (by decide)
theorem n11 : ((1 : Int32) = 0) = False := eq_false (by decide)
theorem nz (x : Int32) : x = 0 ↔ x = nI 0 := Iff.rfl
def IdOK (S : Mem) (c N : Nat) : Prop := inR (S.1 1) 0 N ∧ ∀ p, p < c → inR (S.2 0 p) 0 N
def St (N : Nat) (S : Mem) (f : Nat → Int32) : Prop := ∃ c t q, Rel S f c t q ∧ Inv S c t q ∧ IdOK S c N
def Op (N : Nat) (S M : Mem) (codes : List (Int32 × Int32)) (fc fm : Option (Int32 × Mem)) : Prop :=
  (∃ z ∈ codes, fc = some (z.1, S) ∧ fm = some (z.2, M)) ∨ ∃ (r : Nat) (S' M' : Mem), r < 2 ^ 31 ∧ fc = some (nI r, S') ∧ fm = some (0, M') ∧ M'.1 7 = nI r ∧ Fm M M' ∧ St (N + 1) S' (M'.2 0)
theorem inR.mono {x : Int32} {lo hi hi' : Nat} (h : inR x lo hi) (hh : hi ≤ hi') : inR x lo hi' := by
  obtain ⟨n, a, b, e⟩ := h
  exact ⟨n, a, by omega, e⟩
theorem IdOK.mono {S : Mem} {c N N' : Nat} (h : IdOK S c N) (hh : N ≤ N') : IdOK S c N' := ⟨h.1.mono hh, fun p hp => (h.2 p hp).mono hh⟩
theorem St.mono {N N' : Nat} {S : Mem} {f : Nat → Int32} (h : St N S f) (hh : N ≤ N') : St N' S f := by
  obtain ⟨c, t, q, R, I, D⟩ := h
  exact ⟨c, t, q, R, I, D.mono hh⟩
theorem IdOK.same {S T : Mem} {c N : Nat} (h1 : S.1 1 = T.1 1) (h2 : ∀ p, p < c → S.2 0 p = T.2 0 p) (h : IdOK T c N) : IdOK S c N := by
  refine ⟨by rw [h1]; exact h.1, fun p hp => ?_⟩
  rw [h2 p hp]
  exact h.2 p hp
theorem sI_flag {g : Nat → Int32} : ∀ n, (∀ p, p < n → g p = 0 ∨ g p = 1) → ∃ r, r ≤ n ∧ sI g n = nI r := by
  intro n
  induction n with
  | zero => intro _; exact ⟨0, Nat.le_refl 0, rfl⟩
  | succ n ih =>
    intro h
    obtain ⟨r, h1, h2⟩ := ih (fun p hp => h p (by omega))
    rcases h n (by omega) with e | e
    · exact ⟨r, by omega, by rw [sI, h2, e, li_0, nI_add]; rfl⟩
    · exact ⟨r + 1, by omega, by rw [sI, h2, e, li_1, nI_add]⟩
/-- one number of one lot is set on both sides -/
theorem Rel.set {S M : Mem} {c t q p j : Nat} (R : Rel S (M.2 0) c t q) (hp : p < c) (hj : j < 7) (v : Int32) : Rel (wrA S j (nI p) v) ((wrA M 0 (nI (8 + 7 * p + j)) v).2 0) c t q := by
  have hc := R.c
  have ht := R.t
  have hq := R.q
  obtain ⟨⟨a1, a2, a3, a4⟩, ⟨b1, b2, b3⟩, ⟨c1, c2, c3⟩, ⟨d1, d2, d3, d4⟩, e1, e2, e3⟩ := R
  refine ⟨⟨?_, a2, ?_, a4⟩, ⟨b1, ?_, b3⟩, ⟨c1, ?_, c3⟩, ⟨?_, ?_, ?_, ?_⟩, fun p' hp' j' hj' => ?_, fun k hk => ⟨?_, ?_⟩, fun k hk => ?_⟩
  · rw [wr_at _ _ (by omega), if_neg (by omega), a1]; rfl
  · rw [wr_at _ _ (by omega), if_neg (by omega), a3]
  · rw [wr_at _ _ (by omega), if_neg (by omega), b2]
  · rw [wr_at _ _ (by omega), if_neg (by omega), c2]
  · rw [wr_at _ _ (by omega), if_neg (by omega), d1]; rfl
  · rw [wr_at _ _ (by omega), if_neg (by omega), d2]; rfl
  · rw [wr_at _ _ (by omega), if_neg (by omega), d3]; rfl
  · rw [wr_at _ _ (by omega), if_neg (by omega), d4]; rfl
  · rw [wr_at _ _ (by omega), wr_at _ _ (by omega)]
    by_cases e : j' = j ∧ p' = p
    · rw [if_pos (by omega), if_pos e]
    · rw [if_neg (by omega), if_neg e, e1 p' hp' j' hj']
  · rw [wr_at _ _ (by omega), if_neg (by omega), wr_at _ _ (by omega), if_neg (by omega), (e2 k hk).1]
  · rw [wr_at _ _ (by omega), if_neg (by omega), wr_at _ _ (by omega), if_neg (by omega), (e2 k hk).2]
  · rw [wr_at _ _ (by omega), if_neg (by omega), wr_at _ _ (by omega), if_neg (by omega), e3 k hk]
theorem Inv.set {S : Mem} {c t q p j : Nat} {v : Int32} (I : Inv S c t q) (hc : c ≤ 16) (hp : p < c) (hj : j < 7) (h0 : j ≠ 0) (hl : lotOK (wrA S j (nI p) v) p) (hb : j = 4 → ∀ p', p' < c → p' ≠ p → S.2 4 p' ≠ v) : Inv (wrA S j (nI p) v) c t q := by
  obtain ⟨I1, I2, I3, I4⟩ := I
  refine ⟨⟨fun p' hp' => ?_, fun x y hx hy e => ?_⟩, TrfOK.same (T := S) rfl (fun j' k hk hj' => ?_) I2, I3.same (fun p' hp' => ?_) (fun k hk => ?_), I4⟩
  · by_cases e : p' = p
    · rw [e]
      exact hl
    · exact (I1.1 p' hp').same (fun j' _ => by rw [wr_at _ _ (by omega), if_neg (by omega)])
  · rw [wr_at _ _ (by omega), wr_at _ _ (by omega)] at e
    by_cases j4 : j = 4
    · subst j4
      by_cases ex : x = p
      · by_cases ey : y = p
        · omega
        · rw [if_pos ⟨rfl, ex⟩, if_neg (fun h => ey h.2)] at e
          exact absurd e.symm (hb rfl y hy ey)
      · by_cases ey : y = p
        · rw [if_neg (fun h => ex h.2), if_pos ⟨rfl, ey⟩] at e
          exact absurd e (hb rfl x hx ex)
        · rw [if_neg (fun h => ex h.2), if_neg (fun h => ey h.2)] at e
          exact I1.2 x y hx hy e
    · rw [if_neg (fun h => j4 h.1.symm), if_neg (fun h => j4 h.1.symm)] at e
      exact I1.2 x y hx hy e
  · rw [wr_at _ _ (by omega), if_neg (by omega)]
  · rw [wr_at _ _ (by omega), if_neg (by omega)]
  · rw [wr_at _ _ (by omega), if_neg (by omega)]
theorem IdOK.set {S : Mem} {c p j N : Nat} {v : Int32} (D : IdOK S c N) (hp : p < 2 ^ 31) (h0 : j ≠ 0) : IdOK (wrA S j (nI p) v) c N := IdOK.same (T := S) rfl (fun p' _ => by rw [wr_at _ _ hp, if_neg (by omega)]) D
theorem Fm.set (M : Mem) (x v w : Int32) : Fm M (wrI (wrA M 0 x v) 7 w) := ⟨fun k hk => by rw [wrI_1, if_neg hk, wrA_1], fun j y h0 _ => by rw [wrI_2, wrA_2, if_neg h0]⟩
section OPS
variable {S M : Mem} {N : Nat}
theorem op_seal (s : St N S (M.2 0)) (x : Int32) : Op N S M [(-1, 1), (-4, 2), (-5, 3)] (f_X4_sealLot S x) (f_X7_seals M x) := by
  obtain ⟨c, t, q, R, I, D⟩ := s
  have hc := R.c
  rcases fnd_at (g := S.2 0) (x := x) (c := c) with ⟨h1, h2⟩ | ⟨p, h1, h2, h3, h4⟩
  · refine Or.inl ⟨(-1, 1), by simp, ?_, ?_⟩
    · simp (disch := omega) only [f_X4_sealLot, c_slotWith R.c1 R.c, h1, oi_n, m1_le, nI_leI, nI_ltI, nI_eq, nI_add, pk_mul, pk_sub, nI_clamp, ib_nI, if_pos, if_neg, if_true, if_false, eq_self, ob, li_0]
    · simp (disch := omega) only [f_X7_seals, r_placeOf R, h1, oi_n, nI_leI, nI_ltI, nI_eq, nI_add, pk_mul, pk_sub, nI_clamp, ib_nI, if_pos, if_neg, if_true, if_false, eq_self, ob]
  · have L := I.1.1 p h2
    rcases L.2.2.2.2.1 with e5 | e5
    · rcases L.2.2.2.2.2.1 with e6 | e6
      · have R' := R.set h2 (j := 5) (by omega) 1
        have I' : Inv (wrA S 5 (nI p) 1) c t q := by
          refine I.set R.c h2 (by omega) (by omega) ?_ (fun h => absurd h (by omega))
          obtain ⟨l1, l2, l3, l4, l5, l6, l7⟩ := L
          unfold lotOK
          simp (disch := omega) only [wr_at]
          exact ⟨l1, l2, l3, l4, Or.inr rfl, l6, fun _ => e6⟩
        obtain ⟨r, hr, er⟩ := sI_flag c (fun p hp => (I'.1.1 p hp).2.2.2.2.1)
        obtain ⟨k1, k2⟩ := r_sealed R' I'.1
        rw [er] at k1 k2
        refine Or.inr ⟨r, wrA S 5 (nI p) 1, wrI (wrA M 0 (nI (8 + 7 * p + 5)) 1) 7 (nI r), by omega, ?_, ?_, by rw [wrI_1, if_pos rfl], Fm.set _ _ _ _, c, t, q, R', I', (D.set (by omega) (by omega)).mono (by omega)⟩
        · simp (disch := omega) only [f_X4_sealLot, c_slotWith R.c1 R.c, h1, oi_s, e5, e6, vn1, k1, nI_leI, nI_ltI, nI_eq, nI_add, pk_mul, pk_sub, nI_clamp, ib_nI, if_pos, if_neg, if_true, if_false, eq_self, ob, nI_pos']
        · have e5' : S.2 5 p = nI 0 := e5
          have e6' : S.2 6 p = nI 0 := e6
          have k2' : f_X7_many (wrA M 0 (nI (8 + 7 * p + 5)) (nI 1)) (nI 5) = some (nI r) := k2
          simp (disch := omega) only [f_X7_seals, r_placeOf R, h1, oi_s, nI_m1, nI_m1', m1_lt, m1_lt', m1_le, m1_le', n01, n10, n1z, n1z', n11, li_1, li_2, li_3, li_5, li_6, r_of R, e5', e6', n01, m_sets, k2', f_X7_done, nI_leI, nI_ltI, nI_eq, nI_add, pk_mul, pk_sub, nI_clamp, ib_nI, if_pos, if_neg, if_true, if_false, eq_self, ob]
      · refine Or.inl ⟨(-5, 3), by simp, ?_, ?_⟩
        · have h0 : ¬ ((1 : Int32) = 0) := by decide
          simp (disch := omega) only [f_X4_sealLot, c_slotWith R.c1 R.c, h1, oi_s, e5, e6, h0, nI_leI, nI_ltI, nI_eq, nI_add, pk_mul, pk_sub, nI_clamp, ib_nI, if_pos, if_neg, if_true, if_false, eq_self, ob, nI_pos']
        · have e5' : S.2 5 p = nI 0 := e5
          have e6' : S.2 6 p = nI 1 := e6
          simp (disch := omega) only [f_X7_seals, r_placeOf R, h1, oi_s, nI_m1, nI_m1', m1_lt, m1_lt', m1_le, m1_le', n01, n10, n1z, n1z', n11, li_1, li_2, li_3, li_5, li_6, r_of R, e5', e6', n01, nI_leI, nI_ltI, nI_eq, nI_add, pk_mul, pk_sub, nI_clamp, ib_nI, if_pos, if_neg, if_true, if_false, eq_self, ob]
    · refine Or.inl ⟨(-4, 2), by simp, ?_, ?_⟩
      · have h0 : ¬ ((1 : Int32) = 0) := by decide
        simp (disch := omega) only [f_X4_sealLot, c_slotWith R.c1 R.c, h1, oi_s, e5, h0, nI_leI, nI_ltI, nI_eq, nI_add, pk_mul, pk_sub, nI_clamp, ib_nI, if_pos, if_neg, if_true, if_false, eq_self, ob, nI_pos']
      · have e5' : S.2 5 p = nI 1 := e5
        simp (disch := omega) only [f_X7_seals, r_placeOf R, h1, oi_s, nI_m1, nI_m1', m1_lt, m1_lt', m1_le, m1_le', n01, n10, n1z, n1z', n11, li_1, li_2, li_3, li_5, li_6, r_of R, e5', n01, nI_leI, nI_ltI, nI_eq, nI_add, pk_mul, pk_sub, nI_clamp, ib_nI, if_pos, if_neg, if_true, if_false, eq_self, ob]
end OPS
