/-! .. a command, the model: its pieces -/
theorem fr_app (t : Nat → Int32) (n : Nat) (w2 : List Int32) : ∀ w1 p, ((fr t n w1 p).1 = false → fr t n (w1 ++ w2) p = fr t n w1 p) ∧ ((fr t n w1 p).1 = true → fr t n (w1 ++ w2) p = ((fr t n w2 (fr t n w1 p).2.1).1, (fr t n w2 (fr t n w1 p).2.1).2.1, (fr t n w1 p).2.2 ++ (fr t n w2 (fr t n w1 p).2.1).2.2)) := by
  intro w1
  induction w1 with
  | nil =>
    intro p
    exact ⟨fun h => (by cases h), fun _ => rfl⟩
  | cons c w ih =>
    intro p
    rw [List.cons_append, fr, fr]
    by_cases e : c = 35
    · rw [if_pos e, if_pos e]
      by_cases d : nd t n 4 p = 0
      · rw [if_pos d, if_pos d]
        exact ⟨fun _ => rfl, fun h => (by cases h)⟩
      · rw [if_neg d, if_neg d]
        obtain ⟨i1, i2⟩ := ih (p + nd t n 4 p)
        refine ⟨fun h => ?_, fun h => ?_⟩
        · rw [i1 h]
        · rw [i2 h]
          rfl
    · rw [if_neg e, if_neg e]
      by_cases d : p < n ∧ okc c (t p) = true
      · rw [if_pos d, if_pos d]
        exact ih (p + 1)
      · rw [if_neg d, if_neg d]
        exact ⟨fun _ => rfl, fun h => (by cases h)⟩
/-- the model reads the text t of n characters -/
def MT (M : Mem) (t : Nat → Int32) (n : Nat) : Prop := M.1 9 = nI n ∧ n ≤ 60 ∧ ∀ i, i < n → M.2 5 i = t i ∧ ∃ v : Nat, v < 65536 ∧ t i = nI v
/-- all but what reading changes -/
def Ft (M M' : Mem) (cm : Nat) : Prop := (∀ k, k ≠ 8 → k ≠ 11 → M'.1 k = M.1 k) ∧ ∀ j y, (j ≠ 6 ∨ y < 5 * cm ∨ 5 * cm + 5 ≤ y) → M'.2 j y = M.2 j y
theorem Ft.rf (M : Mem) (cm : Nat) : Ft M M cm := ⟨fun _ _ _ => rfl, fun _ _ _ => rfl⟩
theorem Ft.tr {M M1 M2 : Mem} {cm : Nat} (h : Ft M M1 cm) (g : Ft M1 M2 cm) : Ft M M2 cm := ⟨fun k a b => (g.1 k a b).trans (h.1 k a b), fun j y a => (g.2 j y a).trans (h.2 j y a)⟩
theorem Ft.text {M M' : Mem} {cm : Nat} {t : Nat → Int32} {n : Nat} (h : Ft M M' cm) (g : MT M t n) : MT M' t n := ⟨by rw [h.1 9 (by omega) (by omega), g.1], g.2.1, fun i hi => by rw [h.2 5 i (by omega)]; exact g.2.2 i hi⟩
section TEXT3
variable {t : Nat → Int32} {n cm p0 : Nat}
theorem m_here {M : Mem} {p : Nat} (h : MT M t n) (h1 : M.1 8 = nI p) (hp : p ≤ n) {k : Nat} (hk : k ≤ 1) : f_X7_here M (nI k) = some (if p + k < n then t (p + k) else -1) := by
  have hn := h.2.1
  rw [f_X7_here, h.1, h1, nI_add]
  by_cases e : p + k < n
  · rw [if_neg (nI_ge e (by omega)), if_pos (ib_nI (by omega) (by omega)), nI_clamp (by omega), if_pos e, (h.2.2 _ e).1]
  · rw [if_pos (nI_le (by omega) (by omega)), if_neg e]
/-- how far the model has come with the pieces w, from p0, for the command cm -/
def Ps (M0 M : Mem) (t : Nat → Int32) (n cm p0 : Nat) (w : List Int32) : Prop :=
  MT M t n ∧ M.1 8 = nI (fr t n w p0).2.1 ∧ M.1 11 = (if (fr t n w p0).1 = true then nI 0 else nI 1) ∧ M.1 10 = nI cm ∧ ((fr t n w p0).1 = true → ∀ x, x < (fr t n w p0).2.2.length → M.2 6 (5 * cm + 1 + x) = (fr t n w p0).2.2.getD x 0) ∧ Ft M0 M cm
theorem m_saysLoop {u : Nat} (hu : u < 23) (k : Mem → Option Mem) : ∀ (w : List Int32) (i m p : Nat) (M : Mem), (wd u).drop i = w → i + w.length = (wd u).length → w.length + 1 < m → (∀ c ∈ w, c ≠ 35 ∧ c ≠ 37 ∧ c ≠ -1) → MT M t n → M.1 8 = nI p → p ≤ n → M.1 11 = nI 0 →
    ∃ M', f_X7_says_L2 u k m (nI i) M = k M' ∧ M'.1 8 = nI (fr t n w p).2.1 ∧ M'.1 11 = (if (fr t n w p).1 = true then nI 0 else nI 1) ∧ (∀ j, j ≠ 8 → j ≠ 11 → M'.1 j = M.1 j) ∧ M'.2 = M.2 := by
  intro w
  have hlen := len_wd u hu
  have hl2 := lenS_wd u hu
  have hsl : sLen u = nI (wd u).length := by rw [← hl2]; rfl
  induction w with
  | nil =>
    intro i m p M h1 h2 h3 h4 h5 h6 h7 h8
    obtain ⟨m', rfl⟩ : ∃ m', m = m' + 1 := ⟨m - 1, by omega⟩
    simp only [List.length_nil] at h2
    refine ⟨M, ?_, h6, h8, fun _ _ _ => rfl, rfl⟩
    rw [f_X7_says_L2, hsl, if_pos (nI_le (by omega) (by omega))]
  | cons c w ih =>
    intro i m p M h1 h2 h3 h4 h5 h6 h7 h8
    obtain ⟨m', rfl⟩ : ∃ m', m = m' + 1 := ⟨m - 1, by omega⟩
    simp only [List.length_cons] at h2 h3
    obtain ⟨k35, k37, km1⟩ := h4 c List.mem_cons_self
    have hi : i < (wd u).length := by omega
    have hat : sAt u (nI i) = c := by
      have h9 := congrArg (fun l => l[0]?) h1
      simp only [List.getElem?_drop, Nat.add_zero, List.getElem?_cons_zero] at h9
      unfold sAt
      rw [nI_clamp (by omega), List.getD_eq_getElem?_getD, h9]
      rfl
    have hdr : (wd u).drop (i + 1) = w := by
      have := congrArg List.tail h1
      rw [List.tail_drop] at this
      exact this
    have h80 : M.1 11 = 0 := h8
    have hh := m_here h5 h6 h7 (k := 0) (by omega)
    rw [Nat.add_zero] at hh
    have hh : f_X7_here M 0 = some (if p < n then t p else -1) := hh
    rw [f_X7_says_L2, hsl, if_neg (nI_ge hi (by omega)), if_pos h80, hh, ob, hl2, if_pos (ib_nI hi (by omega)), hat, fr_lit k35 k37, h6]
    by_cases e : p < n ∧ t p = c
    · have e1 : (if p < n then t p else -1) = c := by rw [if_pos e.1, e.2]
      rw [if_pos e1, if_pos e, li_1, nI_add, nI_add]
      obtain ⟨M', s1, s2, s3, s4, s5⟩ := ih (i + 1) m' (p + 1) (wrI (wrI M 11 0) 8 (nI (p + 1))) hdr (by omega) (by omega) (fun c hc => h4 c (List.mem_cons_of_mem _ hc)) ⟨h5.1, h5.2.1, h5.2.2⟩ (by rw [wrI_1, if_pos rfl]) (by omega) rfl
      exact ⟨M', s1, s2, s3, fun j j8 j11 => by rw [s4 j j8 j11, wrI_1, if_neg j8, wrI_1, if_neg j11], s5⟩
    · have e1 : ¬ (if p < n then t p else -1) = c := by
        by_cases g : p < n
        · rw [if_pos g]
          exact fun h => e ⟨g, h⟩
        · rw [if_neg g]
          exact fun h => km1 h.symm
      rw [if_neg e1, if_neg e, li_0, nI_add, Nat.add_zero]
      refine ⟨wrI (wrI M 11 1) 8 (nI p), ?_, rfl, rfl, fun j j8 j11 => by rw [wrI_1, if_neg j8, wrI_1, if_neg j11], rfl⟩
      obtain ⟨m'', rfl⟩ : ∃ m'', m' = m'' + 1 := ⟨m' - 1, by omega⟩
      rw [f_X7_says_L2, hsl]
      by_cases g : nI (wd u).length ≤ nI i + 1
      · rw [if_pos g]
      · rw [if_neg g, if_neg (by
          show ¬ (1 : Int32) = 0
          decide)]
theorem m_says {M0 M : Mem} {w : List Int32} (h : Ps M0 M t n cm p0 w) (hp : p0 ≤ n) {u : Nat} (hu : u < 23) (hpl : ∀ c ∈ wd u, c ≠ 35 ∧ c ≠ 37 ∧ c ≠ -1) : ∃ M', f_X7_says M u = some M' ∧ Ps M0 M' t n cm p0 (w ++ wd u) ∧ M'.2 = M.2 := by
  obtain ⟨h1, h2, h3, h4, h5, h6⟩ := h
  have hlen := len_wd u hu
  have hle := (fr_le t n w p0).2.1 hp
  obtain ⟨a1, a2⟩ := fr_app t n (wd u) w p0
  by_cases e : (fr t n w p0).1 = true
  · rw [if_pos e] at h3
    obtain ⟨M', s1, s2, s3, s4, s5⟩ := m_saysLoop (t := t) (n := n) hu (fun M_7 => some M_7) (wd u) 0 40 (fr t n w p0).2.1 M rfl (by omega) (by omega) hpl h1 h2 hle h3
    have hf : Ft M M' cm := ⟨s4, fun j y _ => by rw [s5]⟩
    refine ⟨M', s1, ⟨hf.text h1, by rw [a2 e, s2], by rw [a2 e, s3], by rw [s4 10 (by omega) (by omega), h4], fun g x hx => ?_, h6.tr hf⟩, s5⟩
    have hnn : (fr t n (wd u) (fr t n w p0).2.1).2.2 = [] := by
      have : ∀ l p, (∀ c ∈ l, c ≠ 35 ∧ c ≠ 37 ∧ c ≠ -1) → (fr t n l p).2.2 = [] := by
        intro l
        induction l with
        | nil => intro p _; rfl
        | cons c l ih =>
          intro p hl
          obtain ⟨k35, k37, -⟩ := hl c List.mem_cons_self
          rw [fr_lit k35 k37]
          by_cases g : p < n ∧ t p = c
          · rw [if_pos g]
            exact ih _ (fun c hc => hl c (List.mem_cons_of_mem _ hc))
          · rw [if_neg g]
      exact this _ _ hpl
    rw [a2 e] at hx ⊢
    rw [hnn, List.append_nil] at hx ⊢
    rw [s5]
    exact h5 e x hx
  · have e' : (fr t n w p0).1 = false := by simpa using e
    rw [if_neg e] at h3
    refine ⟨M, ?_, ⟨h1, by rw [a1 e', h2], by rw [a1 e', h3, if_neg e], h4, fun g => absurd (by rw [a1 e'] at g; exact g) e, h6⟩, rfl⟩
    have h11 : ¬ M.1 11 = 0 := by rw [h3]; decide
    rw [f_X7_says, f_X7_says_L2]
    by_cases g : sLen u ≤ 0
    · rw [if_pos g]
    · rw [if_neg g, if_neg h11]
theorem dig_in (x : Int32) : f_X7_in x 48 57 = some (if dg x = true then 1 else 0) := c_isDigit x
theorem dv_alt (a x : Int32) : 10 * a + x - 48 = a * 10 + (x - 48) := by
  rw [Int32.mul_comm 10 a, Int32.sub_eq_add_neg, Int32.sub_eq_add_neg, Int32.add_assoc]
theorem m_numLoop (x1 : Int32) (k : Int32 → Int32 → Mem → Option Mem) : ∀ (d i m p : Nat) (a : Int32) (M : Mem), i + d = 4 → d < m → MT M t n → M.1 8 = nI p → p ≤ n → M.1 11 = nI 0 → f_X7_number_L4 x1 k m a (nI i) M = k (dv t (nd t n d p) p a) (nI (i + nd t n d p)) (wrI M 8 (nI (p + nd t n d p))) := by
  intro d
  induction d with
  | zero =>
    intro i m p a M h1 h2 h h3 h4 h5
    obtain ⟨m', rfl⟩ : ∃ m', m = m' + 1 := ⟨m - 1, by omega⟩
    have h50 : M.1 11 = 0 := h5
    rw [f_X7_number_L4, if_pos h50, li_4, if_pos (nI_le (by omega) (by omega)), nd, dv, Nat.add_zero, Nat.add_zero, wrI_self h3]
  | succ d ih =>
    intro i m p a M h1 h2 h h3 h4 h5
    obtain ⟨m', rfl⟩ : ∃ m', m = m' + 1 := ⟨m - 1, by omega⟩
    have h50 : M.1 11 = 0 := h5
    have hh := m_here h h3 h4 (k := 0) (by omega)
    rw [Nat.add_zero] at hh
    have hh : f_X7_here M 0 = some (if p < n then t p else -1) := hh
    rw [f_X7_number_L4, if_pos h50, li_4, if_neg (nI_ge (by omega) (by omega)), hh, ob, dig_in, ob, nd]
    by_cases e : p < n
    · by_cases g : dg (t p) = true
      · have hc : p < n ∧ dg (t p) = true := ⟨e, g⟩
        rw [if_pos e, if_pos hc, if_pos g, if_neg (by decide), ob, h3, li_1, nI_add, nI_add]
        have := ih (i + 1) m' (p + 1) (a * 10 + (t p - 48)) (wrI M 8 (nI (p + 1))) (by omega) (by omega) ⟨h.1, h.2.1, h.2.2⟩ (by rw [wrI_1, if_pos rfl]) (by omega) h5
        rw [dv_alt, this, wrI_wrI, show 1 + nd t n d (p + 1) = nd t n d (p + 1) + 1 by omega, dv, show i + 1 + nd t n d (p + 1) = i + (nd t n d (p + 1) + 1) by omega, show p + 1 + nd t n d (p + 1) = p + (nd t n d (p + 1) + 1) by omega]
      · have hc : ¬ (p < n ∧ dg (t p) = true) := fun h => g h.2
        rw [if_pos e, if_neg hc, if_neg g, if_pos rfl, dv, Nat.add_zero, Nat.add_zero, wrI_self h3]
    · have hc : ¬ (p < n ∧ dg (t p) = true) := fun h => e h.1
      have hm : ¬ dg (-1) = true := by decide
      rw [if_neg e, if_neg hc, if_neg hm, if_pos rfl, dv, Nat.add_zero, Nat.add_zero, wrI_self h3]
theorem m_number {M0 M : Mem} {w : List Int32} (h : Ps M0 M t n cm p0 w) (hp : p0 ≤ n) (hcm : cm < 59) {k : Nat} (hk : 1 ≤ k ∧ k ≤ 3) (hl : (fr t n w p0).1 = true → (fr t n w p0).2.2.length = k - 1) : ∃ M', f_X7_number M (nI k) = some M' ∧ Ps M0 M' t n cm p0 (w ++ [35]) ∧ ∀ y, y ≠ 5 * cm + k → M'.2 6 y = M.2 6 y := by
  obtain ⟨h1, h2, h3, h4, h5, h6⟩ := h
  have hle := (fr_le t n w p0).2.1 hp
  obtain ⟨a1, a2⟩ := fr_app t n [35] w p0
  have hib : ib (nI (5 * cm + k)) 300 = true := ib_nI (by omega) (by omega)
  by_cases e : (fr t n w p0).1 = true
  · rw [if_pos e] at h3
    have hlp := m_numLoop (t := t) (n := n) (nI k) (fun y10_2 y10_3 M_10 =>
    if (M_10.1 11) = 0 then
      if y10_3 = 0 then
        if ib ((5 * (M_10.1 10)) + nI k) 300 = true then
        some (wrA (wrI M_10 11 1) 6 ((5 * (M_10.1 10)) + nI k) y10_2)
        else none
      else
        if ib ((5 * (M_10.1 10)) + nI k) 300 = true then
        some (wrA (wrI M_10 11 0) 6 ((5 * (M_10.1 10)) + nI k) y10_2)
        else none
    else
      if ib ((5 * (M_10.1 10)) + nI k) 300 = true then
      some (wrA (wrI M_10 11 1) 6 ((5 * (M_10.1 10)) + nI k) y10_2)
      else none) 4 0 40 (fr t n w p0).2.1 0 M (by omega) (by omega) h1 h2 hle h3
    have hnd := (nd_le t n 4 (fr t n w p0).2.1).1
    have hE := a2 e
    have w11 : (wrI M 8 (nI ((fr t n w p0).2.1 + nd t n 4 (fr t n w p0).2.1))).1 11 = 0 := h3
    have w10 : (wrI M 8 (nI ((fr t n w p0).2.1 + nd t n 4 (fr t n w p0).2.1))).1 10 = nI cm := h4
    rw [if_pos w11, w10, li_5, pk_mul, nI_add, if_pos hib, if_pos hib] at hlp
    by_cases d : nd t n 4 (fr t n w p0).2.1 = 0
    · have hz : nI (0 + nd t n 4 (fr t n w p0).2.1) = 0 := by rw [d]; rfl
      rw [if_pos hz, d, Nat.add_zero] at hlp
      have hfr : fr t n [35] (fr t n w p0).2.1 = (false, (fr t n w p0).2.1, []) := by rw [fr, if_pos rfl, if_pos d]
      rw [hfr] at hE
      refine ⟨_, hlp, ⟨⟨h1.1, h1.2.1, fun i hi => ?_⟩, ?_, ?_, h4, fun g => absurd (by rw [hE] at g; exact g) (by simp), h6.tr ⟨fun j j8 j11 => ?_, fun j y hj => ?_⟩⟩, fun y hy => by rw [wr_at _ _ (by omega), if_neg (fun h => hy h.2)]; rfl⟩
      · rw [wr_same _ _ _ _ _ _ (by omega)]
        exact h1.2.2 i hi
      · rw [hE]
        rfl
      · rw [hE]
        rfl
      · rw [wrA_1, wrI_1, if_neg j11, wrI_1, if_neg j8]
      · rw [wr_at _ _ (by omega), if_neg (by omega)]
        rfl
    · have hz : ¬ nI (0 + nd t n 4 (fr t n w p0).2.1) = 0 := by
        rw [li_0, nI_eq (by omega) (by omega)]
        omega
      rw [if_neg hz] at hlp
      have hfr : fr t n [35] (fr t n w p0).2.1 = (true, (fr t n w p0).2.1 + nd t n 4 (fr t n w p0).2.1, [dv t (nd t n 4 (fr t n w p0).2.1) (fr t n w p0).2.1 0]) := by rw [fr, if_pos rfl, if_neg d]; rfl
      rw [hfr] at hE
      refine ⟨_, hlp, ⟨⟨h1.1, h1.2.1, fun i hi => ?_⟩, ?_, ?_, h4, fun _ x hx => ?_, h6.tr ⟨fun j j8 j11 => ?_, fun j y hj => ?_⟩⟩, fun y hy => by rw [wr_at _ _ (by omega), if_neg (fun h => hy h.2)]; rfl⟩
      · rw [wr_same _ _ _ _ _ _ (by omega)]
        exact h1.2.2 i hi
      · rw [hE]
        rfl
      · rw [hE]
        rfl
      · rw [hE] at hx ⊢
        have hlk := hl e
        simp only [List.length_append, List.length_cons, List.length_nil] at hx
        rw [wr_at _ _ (by omega)]
        by_cases g : x = k - 1
        · rw [if_pos (by omega), List.getD_eq_getElem?_getD, List.getElem?_append_right (by omega), show x - (fr t n w p0).2.2.length = 0 by omega]
          rfl
        · rw [if_neg (by omega), List.getD_eq_getElem?_getD, List.getElem?_append_left (by omega), ← List.getD_eq_getElem?_getD]
          exact h5 e x (by omega)
      · rw [wrA_1, wrI_1, if_neg j11, wrI_1, if_neg j8]
      · rw [wr_at _ _ (by omega), if_neg (by omega)]
        rfl
  · have e' : (fr t n w p0).1 = false := by simpa using e
    rw [if_neg e] at h3
    have h11 : ¬ M.1 11 = 0 := by rw [h3]; decide
    have hrun : f_X7_number M (nI k) = some (wrA (wrI M 11 1) 6 (nI (5 * cm + k)) 0) := by
      rw [f_X7_number, f_X7_number_L4, if_neg h11, if_neg h11, h4, li_5, pk_mul, nI_add, if_pos hib]
    refine ⟨_, hrun, ⟨⟨h1.1, h1.2.1, fun i hi => ?_⟩, ?_, ?_, h4, fun g => absurd (by rw [a1 e'] at g; exact g) e, h6.tr ⟨fun j j8 j11 => ?_, fun j y hj => ?_⟩⟩, fun y hy => by rw [wr_at _ _ (by omega), if_neg (fun h => hy h.2)]; rfl⟩
    · rw [wr_same _ _ _ _ _ _ (by omega)]
      exact h1.2.2 i hi
    · rw [a1 e', ← h2]
      rfl
    · rw [a1 e', if_neg e]
      rfl
    · rw [wrA_1, wrI_1, if_neg j11]
    · rw [wr_at _ _ (by omega), if_neg (by omega)]
      rfl
end TEXT3
