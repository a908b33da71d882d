/-! .. the model's command whole -/
def srt (v : Nat) : Int32 := ([108, 115, 111, 119, 113, 114, 109, 97, 116, 98, 100] : List Int32).getD v 0
/-- what the model has written down of the command v read at p -/
def Told (M : Mem) (t : Nat → Int32) (n cm p v : Nat) : Prop := M.2 6 (5 * cm) = srt v ∧ (∀ x, x < (fr t n (wd v) p).2.2.length → M.2 6 (5 * cm + 1 + x) = (fr t n (wd v) p).2.2.getD x 0) ∧ (v = 0 → M.2 6 (5 * cm + 4) = t (p + 4))
section TEXT4
variable {t : Nat → Int32} {n cm p0 : Nat}
theorem plain : ∀ u, u = 7 ∨ u = 10 ∨ (11 ≤ u ∧ u < 23) → ∀ c ∈ wd u, c ≠ 35 ∧ c ≠ 37 ∧ c ≠ -1 := by
  have h : (List.range 23).all (fun u => !decide (u = 7 ∨ u = 10 ∨ (11 ≤ u ∧ u < 23)) || (wd u).all (fun c => decide (c ≠ 35 ∧ c ≠ 37 ∧ c ≠ -1))) = true := by decide +kernel
  intro u hu c hc
  have h1 := List.all_eq_true.mp h u (List.mem_range.mpr (by omega))
  simp only [Bool.or_eq_true, Bool.not_eq_true', decide_eq_false_iff_not] at h1
  rcases h1 with h1 | h1
  · exact absurd hu h1
  · exact of_decide_eq_true (List.all_eq_true.mp h1 c hc)
/-- the number of numbers that were read is the form's -/
theorem fr_n35 : ∀ w p, (fr t n w p).1 = true → (fr t n w p).2.2.length = n35 w := by
  intro w
  induction w with
  | nil => intro p _; rfl
  | cons c w ih =>
    intro p h
    rw [fr] at h ⊢
    unfold n35
    by_cases e : c = 35
    · rw [if_pos e] at h ⊢
      by_cases d : nd t n 4 p = 0
      · rw [if_pos d] at h
        cases h
      · rw [if_neg d] at h ⊢
        have := ih _ h
        simp only [List.length_cons, this, n35, List.filter_cons, e, decide_true, if_true]
    · rw [if_neg e] at h ⊢
      by_cases d : p < n ∧ okc c (t p) = true
      · rw [if_pos d] at h ⊢
        rw [ih _ h]
        simp [n35, e]
      · rw [if_neg d] at h
        cases h
/-- the start of a command's pieces -/
theorem Ps.start {M M0 : Mem} (h : MT M t n) (h8 : M.1 8 = nI p0) (h11 : M.1 11 = nI 0) (h10 : M.1 10 = nI cm) (hf : Ft M0 M cm) : Ps M0 M t n cm p0 [] := ⟨h, h8, h11, h10, fun _ x hx => absurd hx (by simp [fr]), hf⟩
theorem Ps.wr {M0 M : Mem} {w : List Int32} (h : Ps M0 M t n cm p0 w) (hcm : cm < 59) {v : Int32} (a : Nat) (ha : a = 0 ∨ a = 4) (hl : (fr t n w p0).1 = true → (fr t n w p0).2.2.length ≤ 3) : Ps M0 (wrA M 6 (nI (5 * cm + a)) v) t n cm p0 w := by
  obtain ⟨h1, h2, h3, h4, h5, h6⟩ := h
  refine ⟨⟨h1.1, h1.2.1, fun i hi => ?_⟩, h2, h3, h4, fun g x hx => ?_, h6.tr ⟨fun _ _ _ => rfl, fun j y hj => ?_⟩⟩
  · rw [wr_same _ _ _ _ _ _ (by omega)]
    exact h1.2.2 i hi
  · have := hl g
    rw [wr_at _ _ (by omega), if_neg (by omega)]
    exact h5 g x hx
  · rw [wr_at _ _ (by omega), if_neg (by omega)]
/-- a command of one word and one number -/
theorem m_one {M0 M : Mem} (h : Ps M0 M t n cm p0 []) (hp : p0 ≤ n) (hcm : cm < 59) {u : Nat} (hu : u < 23) (hpl : ∀ c ∈ wd u, c ≠ 35 ∧ c ≠ 37 ∧ c ≠ -1) (sort : Int32) : ∃ M', f_X7_one M u sort = some M' ∧ Ps M0 M' t n cm p0 (wd u ++ [35]) ∧ M'.2 6 (5 * cm) = sort := by
  have h10 := h.2.2.2.1
  have h0 := h.wr hcm (v := sort) 0 (Or.inl rfl) (fun _ => by simp [fr])
  obtain ⟨M1, a1, a2, a3⟩ := m_says h0 hp hu hpl
  rw [List.nil_append] at a2
  have hn0 : n35 (wd u) = 0 := by
    unfold n35
    rw [List.filter_eq_nil_iff.mpr (fun c hc => by simpa using (hpl c hc).1)]
    rfl
  obtain ⟨M2, b1, b2, b3⟩ := m_number a2 hp hcm (k := 1) (by omega) (fun g => by rw [fr_n35 _ _ g, hn0])
  refine ⟨M2, ?_, b2, ?_⟩
  · have hib : ib (nI (5 * cm)) 300 = true := ib_nI (by omega) (by omega)
    rw [f_X7_one, h10, li_5, pk_mul, if_pos hib]
    rw [Nat.add_zero] at a1
    rw [a1, ob, li_1, b1, ob]
  · rw [b3 _ (by omega), a3, wr_at _ _ (by omega), if_pos ⟨rfl, rfl⟩]
theorem m_two {M0 M : Mem} (h : Ps M0 M t n cm p0 []) (hp : p0 ≤ n) (hcm : cm < 59) {u u' : Nat} (hu : u < 23) (hu' : u' < 23) (hpl : ∀ c ∈ wd u, c ≠ 35 ∧ c ≠ 37 ∧ c ≠ -1) (hpl' : ∀ c ∈ wd u', c ≠ 35 ∧ c ≠ 37 ∧ c ≠ -1) (sort : Int32) : ∃ M', f_X7_two M u u' sort = some M' ∧ Ps M0 M' t n cm p0 (wd u ++ [35] ++ wd u' ++ [35]) ∧ M'.2 6 (5 * cm) = sort := by
  obtain ⟨M1, a1, a2, a3⟩ := m_one h hp hcm hu hpl sort
  obtain ⟨M2, b1, b2, b3⟩ := m_says a2 hp hu' hpl'
  have hn0 : ∀ u, (∀ c ∈ wd u, c ≠ 35 ∧ c ≠ 37 ∧ c ≠ -1) → n35 (wd u) = 0 := by
    intro u hpl
    unfold n35
    rw [List.filter_eq_nil_iff.mpr (fun c hc => by simpa using (hpl c hc).1)]
    rfl
  have hn1 : n35 (wd u ++ [35] ++ wd u') = 1 := by
    have e1 := hn0 u hpl
    have e2 := hn0 u' hpl'
    unfold n35 at e1 e2 ⊢
    rw [List.filter_append, List.filter_append, List.length_append, List.length_append, e1, e2]
    rfl
  obtain ⟨M3, c1, c2, c3⟩ := m_number b2 hp hcm (k := 2) (by omega) (fun g => by rw [fr_n35 _ _ g, hn1])
  refine ⟨M3, ?_, c2, by rw [c3 _ (by omega), b3, a3]⟩
  rw [f_X7_two, a1, ob, b1, ob, li_2, c1, ob]
end TEXT4
