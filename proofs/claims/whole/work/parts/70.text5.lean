/-! .. the model's command, by its letter -/
section TEXT5
variable {t : Nat → Int32} {n cm p0 : Nat}
theorem m_isKind (x : Int32) : f_X7_isKind x = some (if okc 37 x = true then 1 else 0) := by
  have e : f_X7_in x 97 101 = some (if okc 37 x = true then 1 else 0) := by
    unfold f_X7_in okc
    rw [if_pos rfl]
    by_cases a : x < 97
    · simp [a]
    · by_cases b : 101 < x
      · simp [a, b]
      · simp [a, b]
  rw [f_X7_isKind, e, ob]
  by_cases g : okc 37 x = true
  · rw [if_pos g, vn1, if_pos rfl]
  · rw [if_neg g, vn0, if_pos rfl]
theorem fr_plain {w : List Int32} (hpl : ∀ c ∈ w, c ≠ 35 ∧ c ≠ 37 ∧ c ≠ -1) : ∀ p, (fr t n w p).1 = true → (fr t n w p).2.1 = p + w.length := by
  induction w with
  | nil => intro p _; rfl
  | cons c w ih =>
    intro p h
    obtain ⟨k35, k37, -⟩ := hpl c List.mem_cons_self
    rw [fr_lit k35 k37] at h ⊢
    by_cases g : p < n ∧ t p = c
    · rw [if_pos g] at h ⊢
      rw [ih (fun c hc => hpl c (List.mem_cons_of_mem _ hc)) _ h, List.length_cons]
      omega
    · rw [if_neg g] at h
      cases h
/-- the kind's step -/
theorem Ps.kind {M0 M : Mem} {w : List Int32} (h : Ps M0 M t n cm p0 w) (hcm : cm < 59) (hn : n35 w = 0) (b : Bool) (q : Nat) (kk : Int32) (hq : (fr t n (w ++ [37]) p0).2.1 = q) (hb : (fr t n (w ++ [37]) p0).1 = b) : Ps M0 (wrI (wrA (wrI M 11 (if b = true then nI 0 else nI 1)) 6 (nI (5 * cm + 4)) kk) 8 (nI q)) t n cm p0 (w ++ [37]) := by
  have hl : (fr t n (w ++ [37]) p0).1 = true → (fr t n (w ++ [37]) p0).2.2.length = 0 := fun g => by
    rw [fr_n35 _ _ g]
    unfold n35 at hn ⊢
    rw [List.filter_append, List.length_append, hn]
    rfl
  obtain ⟨h1, h2, h3, h4, h5, h6⟩ := h
  refine ⟨⟨h1.1, h1.2.1, fun i hi => ?_⟩, ?_, ?_, h4, fun g x hx => absurd hx (by rw [hl g]; omega), h6.tr ⟨fun j j8 j11 => ?_, fun j y hj => ?_⟩⟩
  · rw [wrI_2, wr_same _ _ _ _ _ _ (by omega)]
    exact h1.2.2 i hi
  · rw [wrI_1, if_pos rfl, hq]
  · rw [wrI_1, if_neg (by omega), wrA_1, wrI_1, if_pos rfl, hb]
  · rw [wrI_1, if_neg j8, wrA_1, wrI_1, if_neg j11]
  · rw [wrI_2, wr_at _ _ (by omega), if_neg (by omega)]
    rfl
theorem m_lot {M0 M : Mem} (h : Ps M0 M t n cm p0 []) (hp : p0 ≤ n) (hcm : cm < 59) : ∃ M', f_X7_readsLot M = some M' ∧ Ps M0 M' t n cm p0 (wd 0) ∧ M'.2 6 (5 * cm) = 108 ∧ ((fr t n (wd 0) p0).1 = true → M'.2 6 (5 * cm + 4) = t (p0 + 4)) := by
  have h10 := h.2.2.2.1
  have hp11 := plain 11 (by omega)
  have hp12 := plain 12 (by omega)
  have hp13 := plain 13 (by omega)
  have h0 := h.wr hcm (v := 108) 0 (Or.inl rfl) (fun _ => by simp [fr])
  obtain ⟨M1, a1, a2, a3⟩ := m_says h0 hp (u := 11) (by omega) hp11
  rw [List.nil_append] at a2
  have hib : ib (nI (5 * cm)) 300 = true := ib_nI (by omega) (by omega)
  have hib4 : ib (nI (5 * cm + 4)) 300 = true := ib_nI (by omega) (by omega)
  have hle := (fr_le t n (wd 11) p0).2.1 hp
  have m10 : M1.1 10 = nI cm := a2.2.2.2.1
  have m8 : M1.1 8 = nI (fr t n (wd 11) p0).2.1 := a2.2.1
  have m11 := a2.2.2.1
  have e37 : ∀ p, fr t n [37] p = if p < n ∧ okc 37 (t p) = true then (true, p + 1, []) else (false, p, []) := by
    intro p
    rw [fr, if_neg (by decide)]
    rfl
  obtain ⟨f1, f2⟩ := fr_app t n [37] (wd 11) p0
  -- behind the kind
  have rest : ∀ M3, Ps M0 M3 t n cm p0 (wd 11 ++ [37]) → M3.2 6 (5 * cm) = 108 → ((fr t n (wd 11 ++ [37]) p0).1 = true → M3.2 6 (5 * cm + 4) = t (p0 + 4)) → ∃ M', ((f_X7_number M3 1).bind fun M_35 => (f_X7_says M_35 12).bind fun M_37 => (f_X7_number M_37 2).bind fun M_39 => (f_X7_says M_39 13).bind fun M_41 => (f_X7_number M_41 3).bind fun M_43 => some M_43) = some M' ∧ Ps M0 M' t n cm p0 (wd 0) ∧ M'.2 6 (5 * cm) = 108 ∧ ((fr t n (wd 0) p0).1 = true → M'.2 6 (5 * cm + 4) = t (p0 + 4)) := by
    intro M3 b1 b2 b3
    have len : ∀ w, (fr t n w p0).1 = true → (fr t n w p0).2.2.length = n35 w := fun w g => fr_n35 w p0 g
    obtain ⟨M4, c1, c2, c3⟩ := m_number b1 hp hcm (k := 1) (by omega) (fun g => (len _ g).trans (by decide +kernel))
    obtain ⟨M5, d1, d2, d3⟩ := m_says c2 hp (u := 12) (by omega) hp12
    obtain ⟨M6, e1, e2, e3⟩ := m_number d2 hp hcm (k := 2) (by omega) (fun g => (len _ g).trans (by decide +kernel))
    obtain ⟨M7, f1, f2, f3⟩ := m_says e2 hp (u := 13) (by omega) hp13
    obtain ⟨M8, g1, g2, g3⟩ := m_number f2 hp hcm (k := 3) (by omega) (fun g => (len _ g).trans (by decide +kernel))
    have hw : wd 11 ++ [37] ++ [35] ++ wd 12 ++ [35] ++ wd 13 ++ [35] = wd 0 := by decide +kernel
    rw [hw] at g2
    refine ⟨M8, ?_, g2, ?_, fun h => ?_⟩
    · rw [li_1, c1, ob, d1, ob, li_2, e1, ob, f1, ob, li_3, g1, ob]
    · rw [g3 _ (by omega), f3, e3 _ (by omega), d3, c3 _ (by omega), b2]
    · rw [g3 _ (by omega), f3, e3 _ (by omega), d3, c3 _ (by omega)]
      refine b3 ?_
      by_cases q : (fr t n (wd 11 ++ [37]) p0).1 = true
      · exact q
      · have hw2 : wd 0 = (wd 11 ++ [37]) ++ ([35] ++ wd 12 ++ [35] ++ wd 13 ++ [35]) := by decide +kernel
        rw [hw2, (fr_app t n _ (wd 11 ++ [37]) p0).1 (by simpa using q)] at h
        exact absurd h q
  have h108 : M1.2 6 (5 * cm) = 108 := by
    rw [a3, wr_at _ _ (by omega), if_pos ⟨rfl, rfl⟩]
  have hstart : f_X7_says (wrA M 6 (nI (5 * cm)) 108) 11 = some M1 := by
    rw [Nat.add_zero] at a1
    exact a1
  by_cases e : (fr t n (wd 11) p0).1 = true
  · rw [if_pos e] at m11
    have m110 : M1.1 11 = 0 := m11
    have hpos := fr_plain hp11 p0 e
    have hl11 : (wd 11).length = 4 := by decide +kernel
    rw [hl11] at hpos
    have hh : f_X7_here M1 0 = some (if p0 + 4 < n then t (p0 + 4) else -1) := by
      have := m_here a2.1 m8 hle (k := 0) (by omega)
      rw [Nat.add_zero, hpos] at this
      exact this
    have hE := f2 e
    rw [e37, hpos] at hE
    by_cases g : p0 + 4 < n ∧ okc 37 (t (p0 + 4)) = true
    · rw [if_pos g] at hE
      have hk := a2.kind hcm (by decide +kernel) true (p0 + 5) (t (p0 + 4)) (by rw [hE]) (by rw [hE])
      have hh2 : f_X7_here (wrI M1 11 0) 0 = some (t (p0 + 4)) := by
        have := m_here (M := wrI M1 11 0) ⟨a2.1.1, a2.1.2.1, a2.1.2.2⟩ (show (wrI M1 11 0).1 8 = nI (fr t n (wd 11) p0).2.1 from m8) hle (k := 0) (by omega)
        rw [Nat.add_zero, hpos, if_pos g.1] at this
        exact this
      obtain ⟨M', s1, s2⟩ := rest _ hk (by rw [wrI_2, wr_at _ _ (by omega), if_neg (by omega)]; exact h108) (fun _ => by rw [wrI_2, wr_at _ _ (by omega), if_pos ⟨rfl, rfl⟩])
      refine ⟨M', ?_, s2⟩
      rw [f_X7_readsLot, h10, li_5, pk_mul, if_pos hib, hstart, ob, if_pos m110, hh, ob, if_pos g.1, m_isKind, if_pos g.2, ob, if_neg (by decide), hh2, ob, m10, pk_mul, li_4, nI_add, if_pos hib4, m8, hpos, ← s1]
      rw [li_1, nI_add]
      rfl
    · rw [if_neg g] at hE
      have hk := a2.kind hcm (by decide +kernel) false (p0 + 4) 0 (by rw [hE]) (by rw [hE])
      have hnk : ¬ okc 37 (if p0 + 4 < n then t (p0 + 4) else -1) = true := by
        by_cases q : p0 + 4 < n
        · rw [if_pos q]
          exact fun h => g ⟨q, h⟩
        · rw [if_neg q]
          decide
      obtain ⟨M', s1, s2⟩ := rest _ hk (by rw [wrI_2, wr_at _ _ (by omega), if_neg (by omega)]; exact h108) (fun h => absurd h (by rw [hE]; simp))
      refine ⟨M', ?_, s2⟩
      rw [f_X7_readsLot, h10, li_5, pk_mul, if_pos hib, hstart, ob, if_pos m110, hh, ob, m_isKind, if_neg hnk, ob, if_pos rfl, m10, pk_mul, li_4, nI_add, if_pos hib4, m8, hpos, ← s1]
      rw [li_0, nI_add]
      rfl
  · have e' : (fr t n (wd 11) p0).1 = false := by simpa using e
    rw [if_neg e] at m11
    have m110 : ¬ M1.1 11 = 0 := by rw [m11]; decide
    have hE := f1 e'
    have hk := a2.kind hcm (by decide +kernel) false (fr t n (wd 11) p0).2.1 0 (by rw [hE]) (by rw [hE, e'])
    obtain ⟨M', s1, s2⟩ := rest _ hk (by rw [wrI_2, wr_at _ _ (by omega), if_neg (by omega)]; exact h108) (fun h => absurd h (by rw [hE]; exact e))
    refine ⟨M', ?_, s2⟩
    rw [f_X7_readsLot, h10, li_5, pk_mul, if_pos hib, hstart, ob, if_neg m110, m10, pk_mul, li_4, nI_add, if_pos hib4, m8, ← s1]
    rw [li_0, nI_add]
    rfl
/-- a command that was read, whatever its letter -/
def Rd (M M' : Mem) (t : Nat → Int32) (n cm p v : Nat) : Prop := ∃ M1, M' = wrI M1 10 (nI (cm + 1)) ∧ Ps M M1 t n cm p (wd v) ∧ ((fr t n (wd v) p).1 = true → M1.2 6 (5 * cm) = srt v ∧ (v = 0 → M1.2 6 (5 * cm + 4) = t (p + 4)))
theorem m_cmd0 {M : Mem} (h : MT M t n) (h8 : M.1 8 = nI p0) (h11 : M.1 11 = nI 0) (h10 : M.1 10 = nI cm) (hp : p0 < n) (hcm : cm < 59) (ht : t p0 = 108) : ∃ M', f_X7_readsOne M = some M' ∧ Rd M M' t n cm p0 0 := by
  have hib : ib (nI (5 * cm)) 300 = true := ib_nI (by omega) (by omega)
  have hh : f_X7_here M 0 = some 108 := by
    have := m_here h h8 (by omega) (k := 0) (by omega)
    rw [Nat.add_zero, if_pos hp, ht] at this
    exact this
  have hs := (Ps.start h h8 h11 h10 (Ft.rf M cm)).wr hcm (v := 108) 0 (Or.inl rfl) (fun _ => by simp [fr])
  rw [Nat.add_zero] at hs
  obtain ⟨M1, a1, a2, a3, a4⟩ := m_lot hs (by omega) hcm
  refine ⟨wrI M1 10 (nI (cm + 1)), ?_, M1, rfl, a2, fun g => ⟨a3, fun _ => a4 g⟩⟩
  rw [f_X7_readsOne, hh, ob, h10, li_5, pk_mul, if_pos hib, if_neg (by decide), if_neg (by decide), if_neg (by decide), if_neg (by decide), if_neg (by decide), if_neg (by decide), if_neg (by decide), if_neg (by decide), if_neg (by decide), if_neg (by decide), if_neg (by decide), if_pos rfl, a1, ob, a2.2.2.2.1, li_1, nI_add]
theorem m_cmd1 {M : Mem} (h : MT M t n) (h8 : M.1 8 = nI p0) (h11 : M.1 11 = nI 0) (h10 : M.1 10 = nI cm) (hp : p0 < n) (hcm : cm < 59) (ht : t p0 = 115) (h2 : ¬ (p0 + 1 < n ∧ t (p0 + 1) = 116)) : ∃ M', f_X7_readsOne M = some M' ∧ Rd M M' t n cm p0 1 := by
  have hib : ib (nI (5 * cm)) 300 = true := ib_nI (by omega) (by omega)
  have hh : f_X7_here M 0 = some 115 := by
    have := m_here h h8 (by omega) (k := 0) (by omega)
    rw [Nat.add_zero, if_pos hp, ht] at this
    exact this
  have hs := (Ps.start h h8 h11 h10 (Ft.rf M cm)).wr hcm (v := 115) 0 (Or.inl rfl) (fun _ => by simp [fr])
  rw [Nat.add_zero] at hs
  have hh1 : f_X7_here (wrA M 6 (nI (5 * cm)) 115) 1 = some (if p0 + 1 < n then t (p0 + 1) else -1) := m_here (M := wrA M 6 (nI (5 * cm)) 115) hs.1 (show (wrA M 6 (nI (5 * cm)) 115).1 8 = nI p0 from h8) (by omega) (k := 1) (by omega)
  have hc : ¬ (if p0 + 1 < n then t (p0 + 1) else -1) = 116 := by
    by_cases g : p0 + 1 < n
    · rw [if_pos g]
      exact fun h => h2 ⟨g, h⟩
    · rw [if_neg g]
      decide
  obtain ⟨M1, a1, a2, a3⟩ := m_one hs (by omega) hcm (u := 16) (by omega) (plain 16 (by omega)) 115
  have hw : wd 16 ++ [35] = wd 1 := by decide +kernel
  rw [hw] at a2
  refine ⟨wrI M1 10 (nI (cm + 1)), ?_, M1, rfl, a2, fun _ => ⟨a3, fun h => absurd h (by omega)⟩⟩
  rw [f_X7_readsOne, hh, ob, h10, li_5, pk_mul, if_pos hib, if_neg (by decide), if_neg (by decide), if_neg (by decide), if_neg (by decide), if_neg (by decide), if_neg (by decide), if_neg (by decide), if_neg (by decide), if_neg (by decide), if_neg (by decide), if_neg (by decide), if_neg (by decide), if_neg (by decide), if_neg (by decide), if_neg (by decide), if_neg (by decide), if_neg (by decide), if_neg (by decide), if_pos rfl, hh1, ob, if_neg hc, a1, ob, a2.2.2.2.1, li_1, nI_add]
theorem m_cmd2 {M : Mem} (h : MT M t n) (h8 : M.1 8 = nI p0) (h11 : M.1 11 = nI 0) (h10 : M.1 10 = nI cm) (hp : p0 < n) (hcm : cm < 59) (ht : t p0 = 111) : ∃ M', f_X7_readsOne M = some M' ∧ Rd M M' t n cm p0 2 := by
  have hib : ib (nI (5 * cm)) 300 = true := ib_nI (by omega) (by omega)
  have hh : f_X7_here M 0 = some 111 := by
    have := m_here h h8 (by omega) (k := 0) (by omega)
    rw [Nat.add_zero, if_pos hp, ht] at this
    exact this
  have hs := (Ps.start h h8 h11 h10 (Ft.rf M cm)).wr hcm (v := 111) 0 (Or.inl rfl) (fun _ => by simp [fr])
  rw [Nat.add_zero] at hs
  obtain ⟨M1, a1, a2, a3⟩ := m_one hs (by omega) hcm (u := 17) (by omega) (plain 17 (by omega)) 111
  have hw : wd 17 ++ [35] = wd 2 := by decide +kernel
  rw [hw] at a2
  refine ⟨wrI M1 10 (nI (cm + 1)), ?_, M1, rfl, a2, fun _ => ⟨a3, fun h => absurd h (by omega)⟩⟩
  rw [f_X7_readsOne, hh, ob, h10, li_5, pk_mul, if_pos hib, if_neg (by decide), if_neg (by decide), if_neg (by decide), if_neg (by decide), if_neg (by decide), if_neg (by decide), if_neg (by decide), if_neg (by decide), if_neg (by decide), if_neg (by decide), if_neg (by decide), if_neg (by decide), if_neg (by decide), if_neg (by decide), if_pos rfl, a1, ob, a2.2.2.2.1, li_1, nI_add]
theorem m_cmd3 {M : Mem} (h : MT M t n) (h8 : M.1 8 = nI p0) (h11 : M.1 11 = nI 0) (h10 : M.1 10 = nI cm) (hp : p0 < n) (hcm : cm < 59) (ht : t p0 = 119) : ∃ M', f_X7_readsOne M = some M' ∧ Rd M M' t n cm p0 3 := by
  have hib : ib (nI (5 * cm)) 300 = true := ib_nI (by omega) (by omega)
  have hh : f_X7_here M 0 = some 119 := by
    have := m_here h h8 (by omega) (k := 0) (by omega)
    rw [Nat.add_zero, if_pos hp, ht] at this
    exact this
  have hs := (Ps.start h h8 h11 h10 (Ft.rf M cm)).wr hcm (v := 119) 0 (Or.inl rfl) (fun _ => by simp [fr])
  rw [Nat.add_zero] at hs
  obtain ⟨M1, a1, a2, a3⟩ := m_one hs (by omega) hcm (u := 18) (by omega) (plain 18 (by omega)) 119
  have hw : wd 18 ++ [35] = wd 3 := by decide +kernel
  rw [hw] at a2
  refine ⟨wrI M1 10 (nI (cm + 1)), ?_, M1, rfl, a2, fun _ => ⟨a3, fun h => absurd h (by omega)⟩⟩
  rw [f_X7_readsOne, hh, ob, h10, li_5, pk_mul, if_pos hib, if_neg (by decide), if_neg (by decide), if_neg (by decide), if_neg (by decide), if_neg (by decide), if_neg (by decide), if_neg (by decide), if_neg (by decide), if_neg (by decide), if_neg (by decide), if_neg (by decide), if_neg (by decide), if_neg (by decide), if_neg (by decide), if_neg (by decide), if_neg (by decide), if_neg (by decide), if_neg (by decide), if_neg (by decide), if_neg (by decide), if_neg (by decide), if_neg (by decide), if_pos rfl, a1, ob, a2.2.2.2.1, li_1, nI_add]
theorem m_cmd4 {M : Mem} (h : MT M t n) (h8 : M.1 8 = nI p0) (h11 : M.1 11 = nI 0) (h10 : M.1 10 = nI cm) (hp : p0 < n) (hcm : cm < 59) (ht : t p0 = 113) : ∃ M', f_X7_readsOne M = some M' ∧ Rd M M' t n cm p0 4 := by
  have hib : ib (nI (5 * cm)) 300 = true := ib_nI (by omega) (by omega)
  have hh : f_X7_here M 0 = some 113 := by
    have := m_here h h8 (by omega) (k := 0) (by omega)
    rw [Nat.add_zero, if_pos hp, ht] at this
    exact this
  have hs := (Ps.start h h8 h11 h10 (Ft.rf M cm)).wr hcm (v := 113) 0 (Or.inl rfl) (fun _ => by simp [fr])
  rw [Nat.add_zero] at hs
  obtain ⟨M1, a1, a2, a3⟩ := m_one hs (by omega) hcm (u := 19) (by omega) (plain 19 (by omega)) 113
  have hw : wd 19 ++ [35] = wd 4 := by decide +kernel
  rw [hw] at a2
  refine ⟨wrI M1 10 (nI (cm + 1)), ?_, M1, rfl, a2, fun _ => ⟨a3, fun h => absurd h (by omega)⟩⟩
  rw [f_X7_readsOne, hh, ob, h10, li_5, pk_mul, if_pos hib, if_neg (by decide), if_neg (by decide), if_neg (by decide), if_neg (by decide), if_neg (by decide), if_neg (by decide), if_neg (by decide), if_neg (by decide), if_neg (by decide), if_neg (by decide), if_neg (by decide), if_neg (by decide), if_neg (by decide), if_neg (by decide), if_neg (by decide), if_neg (by decide), if_pos rfl, a1, ob, a2.2.2.2.1, li_1, nI_add]
theorem m_cmd5 {M : Mem} (h : MT M t n) (h8 : M.1 8 = nI p0) (h11 : M.1 11 = nI 0) (h10 : M.1 10 = nI cm) (hp : p0 < n) (hcm : cm < 59) (ht : t p0 = 114) : ∃ M', f_X7_readsOne M = some M' ∧ Rd M M' t n cm p0 5 := by
  have hib : ib (nI (5 * cm)) 300 = true := ib_nI (by omega) (by omega)
  have hh : f_X7_here M 0 = some 114 := by
    have := m_here h h8 (by omega) (k := 0) (by omega)
    rw [Nat.add_zero, if_pos hp, ht] at this
    exact this
  have hs := (Ps.start h h8 h11 h10 (Ft.rf M cm)).wr hcm (v := 114) 0 (Or.inl rfl) (fun _ => by simp [fr])
  rw [Nat.add_zero] at hs
  obtain ⟨M1, a1, a2, a3⟩ := m_one hs (by omega) hcm (u := 20) (by omega) (plain 20 (by omega)) 114
  have hw : wd 20 ++ [35] = wd 5 := by decide +kernel
  rw [hw] at a2
  refine ⟨wrI M1 10 (nI (cm + 1)), ?_, M1, rfl, a2, fun _ => ⟨a3, fun h => absurd h (by omega)⟩⟩
  rw [f_X7_readsOne, hh, ob, h10, li_5, pk_mul, if_pos hib, if_neg (by decide), if_neg (by decide), if_neg (by decide), if_neg (by decide), if_neg (by decide), if_neg (by decide), if_neg (by decide), if_neg (by decide), if_neg (by decide), if_neg (by decide), if_neg (by decide), if_neg (by decide), if_neg (by decide), if_neg (by decide), if_neg (by decide), if_neg (by decide), if_neg (by decide), if_pos rfl, a1, ob, a2.2.2.2.1, li_1, nI_add]
theorem m_cmd6 {M : Mem} (h : MT M t n) (h8 : M.1 8 = nI p0) (h11 : M.1 11 = nI 0) (h10 : M.1 10 = nI cm) (hp : p0 < n) (hcm : cm < 59) (ht : t p0 = 109) : ∃ M', f_X7_readsOne M = some M' ∧ Rd M M' t n cm p0 6 := by
  have hib : ib (nI (5 * cm)) 300 = true := ib_nI (by omega) (by omega)
  have hh : f_X7_here M 0 = some 109 := by
    have := m_here h h8 (by omega) (k := 0) (by omega)
    rw [Nat.add_zero, if_pos hp, ht] at this
    exact this
  have hs := (Ps.start h h8 h11 h10 (Ft.rf M cm)).wr hcm (v := 109) 0 (Or.inl rfl) (fun _ => by simp [fr])
  rw [Nat.add_zero] at hs
  obtain ⟨M1, a1, a2, a3⟩ := m_two hs (by omega) hcm (u := 21) (u' := 13) (by omega) (by omega) (plain 21 (by omega)) (plain 13 (by omega)) 109
  have hw : wd 21 ++ [35] ++ wd 13 ++ [35] = wd 6 := by decide +kernel
  rw [hw] at a2
  refine ⟨wrI M1 10 (nI (cm + 1)), ?_, M1, rfl, a2, fun _ => ⟨a3, fun h => absurd h (by omega)⟩⟩
  rw [f_X7_readsOne, hh, ob, h10, li_5, pk_mul, if_pos hib, if_neg (by decide), if_neg (by decide), if_neg (by decide), if_neg (by decide), if_neg (by decide), if_neg (by decide), if_neg (by decide), if_neg (by decide), if_neg (by decide), if_neg (by decide), if_neg (by decide), if_neg (by decide), if_pos rfl, a1, ob, a2.2.2.2.1, li_1, nI_add]
theorem m_cmd7 {M : Mem} (h : MT M t n) (h8 : M.1 8 = nI p0) (h11 : M.1 11 = nI 0) (h10 : M.1 10 = nI cm) (hp : p0 < n) (hcm : cm < 59) (ht : t p0 = 97) : ∃ M', f_X7_readsOne M = some M' ∧ Rd M M' t n cm p0 7 := by
  have hib : ib (nI (5 * cm)) 300 = true := ib_nI (by omega) (by omega)
  have hh : f_X7_here M 0 = some 97 := by
    have := m_here h h8 (by omega) (k := 0) (by omega)
    rw [Nat.add_zero, if_pos hp, ht] at this
    exact this
  have hs := (Ps.start h h8 h11 h10 (Ft.rf M cm)).wr hcm (v := 97) 0 (Or.inl rfl) (fun _ => by simp [fr])
  rw [Nat.add_zero] at hs
  obtain ⟨M1, a1, a2, a3⟩ := m_says hs (by omega) (u := 7) (by omega) (plain 7 (by omega))
  rw [List.nil_append] at a2
  refine ⟨wrI M1 10 (nI (cm + 1)), ?_, M1, rfl, a2, fun _ => ⟨by rw [a3, wr_at _ _ (by omega), if_pos ⟨rfl, rfl⟩]; rfl, fun h => absurd h (by omega)⟩⟩
  rw [f_X7_readsOne, hh, ob, h10, li_5, pk_mul, if_pos hib, if_pos rfl, a1, ob, a2.2.2.2.1, li_1, nI_add]
theorem m_cmd8 {M : Mem} (h : MT M t n) (h8 : M.1 8 = nI p0) (h11 : M.1 11 = nI 0) (h10 : M.1 10 = nI cm) (hp : p0 < n) (hcm : cm < 59) (ht : t p0 = 115) (h2 : p0 + 1 < n ∧ t (p0 + 1) = 116) : ∃ M', f_X7_readsOne M = some M' ∧ Rd M M' t n cm p0 8 := by
  have hib : ib (nI (5 * cm)) 300 = true := ib_nI (by omega) (by omega)
  have hh : f_X7_here M 0 = some 115 := by
    have := m_here h h8 (by omega) (k := 0) (by omega)
    rw [Nat.add_zero, if_pos hp, ht] at this
    exact this
  have hs := (Ps.start h h8 h11 h10 (Ft.rf M cm)).wr hcm (v := 115) 0 (Or.inl rfl) (fun _ => by simp [fr])
  rw [Nat.add_zero] at hs
  have hh1 : f_X7_here (wrA M 6 (nI (5 * cm)) 115) 1 = some (if p0 + 1 < n then t (p0 + 1) else -1) := m_here (M := wrA M 6 (nI (5 * cm)) 115) hs.1 (show (wrA M 6 (nI (5 * cm)) 115).1 8 = nI p0 from h8) (by omega) (k := 1) (by omega)
  have hc : (if p0 + 1 < n then t (p0 + 1) else -1) = 116 := by rw [if_pos h2.1, h2.2]
  obtain ⟨M1, a1, a2, a3⟩ := m_two hs (by omega) hcm (u := 14) (u' := 15) (by omega) (by omega) (plain 14 (by omega)) (plain 15 (by omega)) 116
  have hw : wd 14 ++ [35] ++ wd 15 ++ [35] = wd 8 := by decide +kernel
  rw [hw] at a2
  refine ⟨wrI M1 10 (nI (cm + 1)), ?_, M1, rfl, a2, fun _ => ⟨a3, fun h => absurd h (by omega)⟩⟩
  rw [f_X7_readsOne, hh, ob, h10, li_5, pk_mul, if_pos hib, if_neg (by decide), if_neg (by decide), if_neg (by decide), if_neg (by decide), if_neg (by decide), if_neg (by decide), if_neg (by decide), if_neg (by decide), if_neg (by decide), if_neg (by decide), if_neg (by decide), if_neg (by decide), if_neg (by decide), if_neg (by decide), if_neg (by decide), if_neg (by decide), if_neg (by decide), if_neg (by decide), if_pos rfl, hh1, ob, if_pos hc, a1, ob, a2.2.2.2.1, li_1, nI_add]
theorem m_cmd9 {M : Mem} (h : MT M t n) (h8 : M.1 8 = nI p0) (h11 : M.1 11 = nI 0) (h10 : M.1 10 = nI cm) (hp : p0 < n) (hcm : cm < 59) (ht : t p0 = 98) : ∃ M', f_X7_readsOne M = some M' ∧ Rd M M' t n cm p0 9 := by
  have hib : ib (nI (5 * cm)) 300 = true := ib_nI (by omega) (by omega)
  have hh : f_X7_here M 0 = some 98 := by
    have := m_here h h8 (by omega) (k := 0) (by omega)
    rw [Nat.add_zero, if_pos hp, ht] at this
    exact this
  have hs := (Ps.start h h8 h11 h10 (Ft.rf M cm)).wr hcm (v := 98) 0 (Or.inl rfl) (fun _ => by simp [fr])
  rw [Nat.add_zero] at hs
  obtain ⟨M1, a1, a2, a3⟩ := m_one hs (by omega) hcm (u := 22) (by omega) (plain 22 (by omega)) 98
  have hw : wd 22 ++ [35] = wd 9 := by decide +kernel
  rw [hw] at a2
  refine ⟨wrI M1 10 (nI (cm + 1)), ?_, M1, rfl, a2, fun _ => ⟨a3, fun h => absurd h (by omega)⟩⟩
  rw [f_X7_readsOne, hh, ob, h10, li_5, pk_mul, if_pos hib, if_neg (by decide), if_pos rfl, a1, ob, a2.2.2.2.1, li_1, nI_add]
theorem m_cmd10 {M : Mem} (h : MT M t n) (h8 : M.1 8 = nI p0) (h11 : M.1 11 = nI 0) (h10 : M.1 10 = nI cm) (hp : p0 < n) (hcm : cm < 59) (ht : t p0 = 100) : ∃ M', f_X7_readsOne M = some M' ∧ Rd M M' t n cm p0 10 := by
  have hib : ib (nI (5 * cm)) 300 = true := ib_nI (by omega) (by omega)
  have hh : f_X7_here M 0 = some 100 := by
    have := m_here h h8 (by omega) (k := 0) (by omega)
    rw [Nat.add_zero, if_pos hp, ht] at this
    exact this
  have hs := (Ps.start h h8 h11 h10 (Ft.rf M cm)).wr hcm (v := 100) 0 (Or.inl rfl) (fun _ => by simp [fr])
  rw [Nat.add_zero] at hs
  obtain ⟨M1, a1, a2, a3⟩ := m_says hs (by omega) (u := 10) (by omega) (plain 10 (by omega))
  rw [List.nil_append] at a2
  refine ⟨wrI M1 10 (nI (cm + 1)), ?_, M1, rfl, a2, fun _ => ⟨by rw [a3, wr_at _ _ (by omega), if_pos ⟨rfl, rfl⟩]; rfl, fun h => absurd h (by omega)⟩⟩
  rw [f_X7_readsOne, hh, ob, h10, li_5, pk_mul, if_pos hib, if_neg (by decide), if_neg (by decide), if_neg (by decide), if_pos rfl, a1, ob, a2.2.2.2.1, li_1, nI_add]
end TEXT5
