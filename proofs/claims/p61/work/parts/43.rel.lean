/-! how a class' state stands in the model's row f; what always holds of it -/
def Rel (S : Mem) (f : Nat → Int32) (c t q : Nat) : Prop :=
  (f 0 = S.1 1 ∧ S.1 0 = nI c ∧ f 1 = nI c ∧ c ≤ 16) ∧ (S.1 2 = nI t ∧ f 2 = nI t ∧ t ≤ 6) ∧ (S.1 7 = nI q ∧ f 7 = nI q ∧ q ≤ 16) ∧ (f 3 = S.1 5 ∧ f 4 = S.1 3 ∧ f 5 = S.1 4 ∧ f 6 = S.1 6) ∧
  (∀ p, p < c → ∀ j, j < 7 → f (8 + 7 * p + j) = S.2 j p) ∧ (∀ k, k < t → f (120 + 2 * k) = S.2 7 k ∧ f (120 + 2 * k + 1) = S.2 8 k) ∧ ∀ k, k < q → f (132 + k) = S.2 9 k
def lotOK (S : Mem) (p : Nat) : Prop := inR (S.2 1 p) 97 101 ∧ inR (S.2 2 p) 1 99 ∧ inR (S.2 3 p) 1 99 ∧ inR (S.2 4 p) 0 23 ∧ (S.2 5 p = 0 ∨ S.2 5 p = 1) ∧ (S.2 6 p = 0 ∨ S.2 6 p = 1) ∧ (S.2 5 p = 1 → S.2 6 p = 0)
def LotsOK (S : Mem) (c : Nat) : Prop := (∀ p, p < c → lotOK S p) ∧ ∀ p p', p < c → p' < c → S.2 4 p = S.2 4 p' → p = p'
def QueOK (S : Mem) (c q : Nat) : Prop := (∀ k, k < q → ∃ p, p < c ∧ S.2 0 p = S.2 9 k) ∧ ∀ k k', k < q → k' < q → S.2 9 k = S.2 9 k' → k = k'
def Inv (S : Mem) (c t q : Nat) : Prop := LotsOK S c ∧ TrfOK S t ∧ QueOK S c q ∧ inR (S.1 3) 0 9999
theorem inR.nn {x : Int32} {lo hi : Nat} (h : inR x lo hi) (hh : hi < 2 ^ 31) : x = nI (nv x) ∧ lo ≤ nv x ∧ nv x ≤ hi := by
  obtain ⟨n, h1, h2, rfl⟩ := h
  rw [show nv (nI n) = n from nI_clamp (by omega)]
  exact ⟨rfl, h1, h2⟩
theorem Rel.nid {S : Mem} {f : Nat → Int32} {c t q : Nat} (R : Rel S f c t q) : f 0 = S.1 1 := R.1.1
theorem Rel.c1 {S : Mem} {f : Nat → Int32} {c t q : Nat} (R : Rel S f c t q) : S.1 0 = nI c := R.1.2.1
theorem Rel.c2 {S : Mem} {f : Nat → Int32} {c t q : Nat} (R : Rel S f c t q) : f 1 = nI c := R.1.2.2.1
theorem Rel.c {S : Mem} {f : Nat → Int32} {c t q : Nat} (R : Rel S f c t q) : c ≤ 16 := R.1.2.2.2
theorem Rel.t1 {S : Mem} {f : Nat → Int32} {c t q : Nat} (R : Rel S f c t q) : S.1 2 = nI t := R.2.1.1
theorem Rel.t2 {S : Mem} {f : Nat → Int32} {c t q : Nat} (R : Rel S f c t q) : f 2 = nI t := R.2.1.2.1
theorem Rel.t {S : Mem} {f : Nat → Int32} {c t q : Nat} (R : Rel S f c t q) : t ≤ 6 := R.2.1.2.2
theorem Rel.q1 {S : Mem} {f : Nat → Int32} {c t q : Nat} (R : Rel S f c t q) : S.1 7 = nI q := R.2.2.1.1
theorem Rel.q2 {S : Mem} {f : Nat → Int32} {c t q : Nat} (R : Rel S f c t q) : f 7 = nI q := R.2.2.1.2.1
theorem Rel.q {S : Mem} {f : Nat → Int32} {c t q : Nat} (R : Rel S f c t q) : q ≤ 16 := R.2.2.1.2.2
theorem Rel.nums {S : Mem} {f : Nat → Int32} {c t q : Nat} (R : Rel S f c t q) : f 3 = S.1 5 ∧ f 4 = S.1 3 ∧ f 5 = S.1 4 ∧ f 6 = S.1 6 := R.2.2.2.1
theorem Rel.at {S : Mem} {f : Nat → Int32} {c t q : Nat} (R : Rel S f c t q) {p j : Nat} (hp : p < c) (hj : j < 7) : f (8 + 7 * p + j) = S.2 j p := R.2.2.2.2.1 p hp j hj
theorem Rel.th {S : Mem} {f : Nat → Int32} {c t q : Nat} (R : Rel S f c t q) {k : Nat} (hk : k < t) : f (120 + 2 * k) = S.2 7 k := (R.2.2.2.2.2.1 k hk).1
theorem Rel.ra {S : Mem} {f : Nat → Int32} {c t q : Nat} (R : Rel S f c t q) {k : Nat} (hk : k < t) : f (120 + 2 * k + 1) = S.2 8 k := (R.2.2.2.2.2.1 k hk).2
theorem Rel.qu {S : Mem} {f : Nat → Int32} {c t q : Nat} (R : Rel S f c t q) {k : Nat} (hk : k < q) : f (132 + k) = S.2 9 k := R.2.2.2.2.2.2 k hk
/-- the place of a lot, of a bay's lot, of a waiting lot -/
abbrev plc (S : Mem) (c : Nat) (x : Int32) : Option Nat := fnd (fun p => decide (S.2 0 p = x)) c 0
abbrev byc (S : Mem) (c : Nat) (x : Int32) : Option Nat := fnd (fun p => decide (S.2 4 p = x)) c 0
abbrev quc (S : Mem) (q : Nat) (x : Int32) : Option Nat := fnd (fun p => decide (S.2 9 p = x)) q 0
theorem fnd_at {g : Nat → Int32} {x : Int32} {c : Nat} : (fnd (fun p => decide (g p = x)) c 0 = none ∧ ∀ p, p < c → g p ≠ x) ∨ ∃ p, fnd (fun p => decide (g p = x)) c 0 = some p ∧ p < c ∧ g p = x ∧ ∀ l, l < p → g l ≠ x := by
  rcases fnd_spec (fun p => decide (g p = x)) c 0 with ⟨h1, h2⟩ | ⟨p, h1, h2, h3, h4, h5⟩
  · exact Or.inl ⟨h1, fun p hp => by simpa using h2 p (by omega) (by omega)⟩
  · exact Or.inr ⟨p, h1, by omega, by simpa using h4, fun l hl => by simpa using h5 l (by omega) hl⟩
section RD
variable {S M : Mem} {c t q : Nat}
theorem r_placeOf (R : Rel S (M.2 0) c t q) (x : Int32) : f_X7_placeOf M x = some (oi (plc S c x)) := by
  rw [m_placeOf R.c2 R.c]
  have := R.c
  rw [fnd_congr c 0 (q := fun p => decide (S.2 0 p = x)) (fun j _ hj => by rw [R.at (by omega) (by omega)])]
theorem r_inside (R : Rel S (M.2 0) c t q) (x : Int32) : f_X7_inside M x = some (oi (byc S c x)) := by
  rw [m_inside R.c2 R.c]
  have := R.c
  rw [fnd_congr c 0 (q := fun p => decide (S.2 4 p = x)) (fun j _ hj => by rw [R.at (by omega) (by omega)])]
theorem r_of (R : Rel S (M.2 0) c t q) {p w : Nat} (hp : p < c) (hw : w < 7) : f_X7_of M (nI p) (nI w) = some (S.2 w p) := by
  have := R.c
  rw [m_of M (by omega), R.at hp hw]
theorem r_many (R : Rel S (M.2 0) c t q) {w : Nat} (hw : w < 7) : f_X7_many M (nI w) = some (sI (fun p => S.2 w p) c) := by
  rw [m_many R.c2 R.c hw]
  exact congrArg some (sI_congr c (fun p hp => R.at hp hw))
theorem r_worth (R : Rel S (M.2 0) c t q) {p : Nat} (hp : p < c) : f_X7_worth M (nI p) = some (S.2 2 p * S.2 3 p) := by
  have := R.c
  rw [m_worth M (by omega), R.at hp (by omega), R.at hp (by omega)]
theorem flags {g : Nat → Int32} {n : Nat} (h : ∀ p, p < n → g p = 0 ∨ g p = 1) : sI (fun p => if g p = 0 then 0 else 1) n = sI g n := by
  refine sI_congr n (fun p hp => ?_)
  rcases h p hp with e | e
  · rw [e]; rfl
  · rw [e]; rfl
theorem r_sealed (R : Rel S (M.2 0) c t q) (L : LotsOK S c) : f_X3_countSealed S = some (sI (fun p => S.2 5 p) c) ∧ f_X7_many M (nI 5) = some (sI (fun p => S.2 5 p) c) := by
  refine ⟨?_, r_many R (by omega)⟩
  rw [c_countSealed R.c1 R.c, flags (fun p hp => (L.1 p hp).2.2.2.2.1)]
theorem r_damp (R : Rel S (M.2 0) c t q) (L : LotsOK S c) : f_X3_countDamp S = some (sI (fun p => S.2 6 p) c) ∧ f_X7_many M (nI 6) = some (sI (fun p => S.2 6 p) c) := by
  refine ⟨?_, r_many R (by omega)⟩
  rw [c_countDamp R.c1 R.c, flags (fun p hp => (L.1 p hp).2.2.2.2.2.1)]
theorem c_queue {q : Nat} (hq : S.1 7 = nI q) (h : q ≤ 16) (x : Int32) : f_X0_placeOf S x = some (oi (quc S q x)) := by
  unfold f_X0_placeOf
  rw [li_0]
  refine (lpS (fun n i => f_X0_placeOf_L2 x S (some (-1)) n i) (some (-1)) (fun p => decide (S.2 9 p = x)) (fun j => some (nI j)) q ?_ ?_ q 40 0 (by omega) (by omega)).trans (fk_so _ _ _)
  · intro n
    simp (disch := omega) only [f_X0_placeOf_L2, hq, li_0, li_1, li_2, li_3, li_4, li_5, li_6, li_7, li_8, li_9, li_10, li_11, li_12, li_16, li_20, li_23, li_24, li_30, li_32, li_35, li_37, li_40, li_42, li_46, li_48, li_53, li_57, li_58, li_59, li_60, li_63, li_64, li_65, li_97, li_99, li_100, li_101, li_120, li_126, li_132, li_148, li_300, li_999, li_1036, li_1184, li_9999, nn1, nI_leI, nI_ltI, nI_eq, nI_add, pk_mul, pk_sub, nI_clamp, ib_nI, if_pos, if_neg, if_true, if_false, eq_self, ob]
  · intro n i hi
    simp (disch := omega) only [f_X0_placeOf_L2, hq, decide_eq_true_eq, li_0, li_1, li_2, li_3, li_4, li_5, li_6, li_7, li_8, li_9, li_10, li_11, li_12, li_16, li_20, li_23, li_24, li_30, li_32, li_35, li_37, li_40, li_42, li_46, li_48, li_53, li_57, li_58, li_59, li_60, li_63, li_64, li_65, li_97, li_99, li_100, li_101, li_120, li_126, li_132, li_148, li_300, li_999, li_1036, li_1184, li_9999, nn1, nI_leI, nI_ltI, nI_eq, nI_add, pk_mul, pk_sub, nI_clamp, ib_nI, if_pos, if_neg, if_true, if_false, eq_self, ob]
theorem r_waits (R : Rel S (M.2 0) c t q) (x : Int32) : f_X7_waits M x = some (oi (quc S q x)) := by
  have h := R.q
  have hq := R.q2
  unfold f_X7_waits
  rw [li_0]
  refine (lpS (fun n i => f_X7_waits_L2 x M (some (-1)) n i) (some (-1)) (fun p => decide (S.2 9 p = x)) (fun j => some (nI j)) q ?_ ?_ q 40 0 (by omega) (by omega)).trans (fk_so _ _ _)
  · intro n
    simp (disch := omega) only [f_X7_waits_L2, hq, li_0, li_1, li_2, li_3, li_4, li_5, li_6, li_7, li_8, li_9, li_10, li_11, li_12, li_16, li_20, li_23, li_24, li_30, li_32, li_35, li_37, li_40, li_42, li_46, li_48, li_53, li_57, li_58, li_59, li_60, li_63, li_64, li_65, li_97, li_99, li_100, li_101, li_120, li_126, li_132, li_148, li_300, li_999, li_1036, li_1184, li_9999, nn1, nI_leI, nI_ltI, nI_eq, nI_add, pk_mul, pk_sub, nI_clamp, ib_nI, if_pos, if_neg, if_true, if_false, eq_self, ob]
  · intro n i hi
    have e := R.qu hi
    simp (disch := omega) only [f_X7_waits_L2, hq, e, decide_eq_true_eq, li_0, li_1, li_2, li_3, li_4, li_5, li_6, li_7, li_8, li_9, li_10, li_11, li_12, li_16, li_20, li_23, li_24, li_30, li_32, li_35, li_37, li_40, li_42, li_46, li_48, li_53, li_57, li_58, li_59, li_60, li_63, li_64, li_65, li_97, li_99, li_100, li_101, li_120, li_126, li_132, li_148, li_300, li_999, li_1036, li_1184, li_9999, nn1, nI_leI, nI_ltI, nI_eq, nI_add, pk_mul, pk_sub, nI_clamp, ib_nI, if_pos, if_neg, if_true, if_false, eq_self, ob]
theorem r_charged (R : Rel S (M.2 0) c t q) (T : TrfOK S t) {v : Nat} (hv : v ≤ 9999) : f_X7_charged M (nI v) = some (nI (dty S t v)) := by
  have hb := T.bd hv
  have hc := R.t2
  obtain ⟨-, ht, hk, -⟩ := T
  unfold f_X7_charged
  rw [li_0]
  have H := lpI (fun n i a => f_X7_charged_L4 (nI v) M (fun y => some (y / 100)) n a i) (fun y => some (y / 100)) (fun i a => a = nI (dN (thr S) (rat S) t v i)) t ?_ ?_ t 40 0 (nI 0) (by omega) (by omega) rfl
  · obtain ⟨a', h1, h2⟩ := H
    refine h2.trans ?_
    rw [h1, li_100, pk_div (by omega) (by omega) (by omega)]
    rfl
  · intro n a _
    simp (disch := omega) only [f_X7_charged_L4, hc, li_0, li_1, li_2, li_3, li_4, li_5, li_6, li_7, li_8, li_9, li_10, li_11, li_12, li_16, li_20, li_23, li_24, li_30, li_32, li_35, li_37, li_40, li_42, li_46, li_48, li_53, li_57, li_58, li_59, li_60, li_63, li_64, li_65, li_97, li_99, li_100, li_101, li_120, li_126, li_132, li_148, li_300, li_999, li_1036, li_1184, li_9999, nn1, nI_leI, nI_ltI, nI_eq, nI_add, pk_mul, pk_sub, nI_clamp, ib_nI, if_pos, if_neg, if_true, if_false, eq_self, ob]
  · intro n i a hi ha
    obtain ⟨e1, l1, e2, l2⟩ := hk i hi
    have g1 := (R.th hi).trans e1
    have g2 := (R.ra hi).trans e2
    refine ⟨_, rfl, ?_⟩
    subst ha
    rw [dN, seg]
    by_cases h1 : i + 1 < t
    · obtain ⟨e3, l3, -, -⟩ := hk (i + 1) h1
      have g3 : M.2 0 (120 + 2 * i + 2) = nI (thr S (i + 1)) := (R.th h1).trans e3
      by_cases h3 : thr S (i + 1) < v
      · by_cases h4 : thr S i < thr S (i + 1)
        · simp (disch := omega) only [f_X7_charged_L4, hc, g1, g2, g3, li_0, li_1, li_2, li_3, li_4, li_5, li_6, li_7, li_8, li_9, li_10, li_11, li_12, li_16, li_20, li_23, li_24, li_30, li_32, li_35, li_37, li_40, li_42, li_46, li_48, li_53, li_57, li_58, li_59, li_60, li_63, li_64, li_65, li_97, li_99, li_100, li_101, li_120, li_126, li_132, li_148, li_300, li_999, li_1036, li_1184, li_9999, nn1, nI_leI, nI_ltI, nI_eq, nI_add, pk_mul, pk_sub, nI_clamp, ib_nI, if_pos, if_neg, if_true, if_false, eq_self, ob]
        · simp (disch := omega) only [f_X7_charged_L4, hc, g1, g2, g3, Nat.sub_eq_zero_of_le, Nat.zero_mul, li_0, li_1, li_2, li_3, li_4, li_5, li_6, li_7, li_8, li_9, li_10, li_11, li_12, li_16, li_20, li_23, li_24, li_30, li_32, li_35, li_37, li_40, li_42, li_46, li_48, li_53, li_57, li_58, li_59, li_60, li_63, li_64, li_65, li_97, li_99, li_100, li_101, li_120, li_126, li_132, li_148, li_300, li_999, li_1036, li_1184, li_9999, nn1, nI_leI, nI_ltI, nI_eq, nI_add, pk_mul, pk_sub, nI_clamp, ib_nI, if_pos, if_neg, if_true, if_false, eq_self, ob]
      · by_cases h4 : thr S i < v
        · simp (disch := omega) only [f_X7_charged_L4, hc, g1, g2, g3, li_0, li_1, li_2, li_3, li_4, li_5, li_6, li_7, li_8, li_9, li_10, li_11, li_12, li_16, li_20, li_23, li_24, li_30, li_32, li_35, li_37, li_40, li_42, li_46, li_48, li_53, li_57, li_58, li_59, li_60, li_63, li_64, li_65, li_97, li_99, li_100, li_101, li_120, li_126, li_132, li_148, li_300, li_999, li_1036, li_1184, li_9999, nn1, nI_leI, nI_ltI, nI_eq, nI_add, pk_mul, pk_sub, nI_clamp, ib_nI, if_pos, if_neg, if_true, if_false, eq_self, ob]
        · simp (disch := omega) only [f_X7_charged_L4, hc, g1, g2, g3, Nat.sub_eq_zero_of_le, Nat.zero_mul, li_0, li_1, li_2, li_3, li_4, li_5, li_6, li_7, li_8, li_9, li_10, li_11, li_12, li_16, li_20, li_23, li_24, li_30, li_32, li_35, li_37, li_40, li_42, li_46, li_48, li_53, li_57, li_58, li_59, li_60, li_63, li_64, li_65, li_97, li_99, li_100, li_101, li_120, li_126, li_132, li_148, li_300, li_999, li_1036, li_1184, li_9999, nn1, nI_leI, nI_ltI, nI_eq, nI_add, pk_mul, pk_sub, nI_clamp, ib_nI, if_pos, if_neg, if_true, if_false, eq_self, ob]
    · by_cases h4 : thr S i < v
      · simp (disch := omega) only [f_X7_charged_L4, hc, g1, g2, li_0, li_1, li_2, li_3, li_4, li_5, li_6, li_7, li_8, li_9, li_10, li_11, li_12, li_16, li_20, li_23, li_24, li_30, li_32, li_35, li_37, li_40, li_42, li_46, li_48, li_53, li_57, li_58, li_59, li_60, li_63, li_64, li_65, li_97, li_99, li_100, li_101, li_120, li_126, li_132, li_148, li_300, li_999, li_1036, li_1184, li_9999, nn1, nI_leI, nI_ltI, nI_eq, nI_add, pk_mul, pk_sub, nI_clamp, ib_nI, if_pos, if_neg, if_true, if_false, eq_self, ob]
      · simp (disch := omega) only [f_X7_charged_L4, hc, g1, g2, Nat.sub_eq_zero_of_le, Nat.zero_mul, li_0, li_1, li_2, li_3, li_4, li_5, li_6, li_7, li_8, li_9, li_10, li_11, li_12, li_16, li_20, li_23, li_24, li_30, li_32, li_35, li_37, li_40, li_42, li_46, li_48, li_53, li_57, li_58, li_59, li_60, li_63, li_64, li_65, li_97, li_99, li_100, li_101, li_120, li_126, li_132, li_148, li_300, li_999, li_1036, li_1184, li_9999, nn1, nI_leI, nI_ltI, nI_eq, nI_add, pk_mul, pk_sub, nI_clamp, ib_nI, if_pos, if_neg, if_true, if_false, eq_self, ob]
/-- the value and the duty of a lot -/
abbrev vlu (S : Mem) (p : Nat) : Nat := nv (S.2 2 p) * nv (S.2 3 p)
def owe (S : Mem) (t p : Nat) : Nat := if S.2 5 p = 0 then dty S t (vlu S p) else 0
theorem lotOK.val {p : Nat} (h : lotOK S p) : S.2 2 p * S.2 3 p = nI (vlu S p) ∧ 1 ≤ vlu S p ∧ vlu S p ≤ 9801 := by
  obtain ⟨-, h2, h3, -⟩ := h
  obtain ⟨e2, a2, b2⟩ := h2.nn (by omega)
  obtain ⟨e3, a3, b3⟩ := h3.nn (by omega)
  refine ⟨?_, ?_, ?_⟩
  · rw [e2, e3, pk_mul]
  · exact Nat.mul_le_mul a2 a3
  · exact Nat.mul_le_mul b2 b3
theorem owe_le (T : TrfOK S t) (L : LotsOK S c) {p : Nat} (hp : p < c) : owe S t p ≤ 9801 := by
  unfold owe
  split
  · have h := (L.1 p hp).val
    have := dN_le T.2.2.2 (fun k h => (T.2.2.1 k h).2.2.2) (vlu S p)
    unfold dty
    omega
  · omega
theorem c_dutyOf (T : TrfOK S t) (L : LotsOK S c) (hc : c ≤ 16) {p : Nat} (hp : p < c) : f_X4_dutyOf S (nI p) = some (nI (owe S t p)) := by
  obtain ⟨e, v1, v2⟩ := (L.1 p hp).val
  rcases (L.1 p hp).2.2.2.2.1 with h | h
  · simp (disch := omega) only [f_X4_dutyOf, owe, h, c_valueOf, e, c_parts T, nI_leI, nI_ltI, nI_eq, nI_add, pk_mul, pk_sub, nI_clamp, ib_nI, if_pos, if_neg, if_true, if_false, eq_self, ob]
  · have h0 : ¬ ((1 : Int32) = 0) := by decide
    simp (disch := omega) only [f_X4_dutyOf, owe, h, h0, nI_leI, nI_ltI, nI_eq, nI_add, pk_mul, pk_sub, nI_clamp, ib_nI, if_pos, if_neg, if_true, if_false, eq_self, ob]
    rfl
theorem r_owed (R : Rel S (M.2 0) c t q) (T : TrfOK S t) (L : LotsOK S c) {p : Nat} (hp : p < c) : f_X7_owed M (nI p) = some (nI (owe S t p)) := by
  obtain ⟨e, v1, v2⟩ := (L.1 p hp).val
  rcases (L.1 p hp).2.2.2.2.1 with h | h
  · have h0 : ¬ (nI 0 = nI 1) := by decide
    have h1 : nI 0 = 0 := rfl
    simp (disch := omega) only [f_X7_owed, li_5, r_of R, owe, h, h0, h1, r_worth R, e, r_charged R T, nI_leI, nI_ltI, nI_eq, nI_add, pk_mul, pk_sub, nI_clamp, ib_nI, if_pos, if_neg, if_true, if_false, eq_self, ob]
    rfl
  · have h0 : ¬ ((1 : Int32) = 0) := by decide
    simp (disch := omega) only [f_X7_owed, li_5, r_of R, owe, h, h0, nI_leI, nI_ltI, nI_eq, nI_add, pk_mul, pk_sub, nI_clamp, ib_nI, if_pos, if_neg, if_true, if_false, eq_self, ob]
    rfl
end RD
