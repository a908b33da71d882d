/-! the law's texts, over the class: what its commands can do -/
/-- the text t of n letters begins with 'o', holds no ';' but at sm, and goes on behind it with 'w' or 'q' or not at all -/
def LT (t : Nat → Int32) (n sm : Nat) : Prop := t 0 = 111 ∧ (∀ i, i < n → t i = 59 → i = sm) ∧ (sm + 1 < n → t (sm + 1) = 119 ∨ t (sm + 1) = 113)
theorem vb_o : ∀ v, v < 11 → fst v = 111 → v = 2 := by
  have h : ∀ v < 11, fst v = 111 → v = 2 := by decide +kernel
  exact h
theorem vb_w : ∀ v, v < 11 → fst v = 119 → v = 3 := by
  have h : ∀ v < 11, fst v = 119 → v = 3 := by decide +kernel
  exact h
theorem vb_q : ∀ v, v < 11 → fst v = 113 → v = 4 := by
  have h : ∀ v < 11, fst v = 113 → v = 4 := by decide +kernel
  exact h
theorem Good.lt {t : Nat → Int32} {n p v : Nat} (h : Good t n p v) (hp : p ≤ n) : p < (fr t n (wd v) p).2.1 ∧ (fr t n (wd v) p).2.1 ≤ n := by
  have a := fr_le t n (wd v) p
  have b := (wd_cons v h.1.1).2.2.2.2.1
  have c := a.2.2 h.2
  exact ⟨by omega, a.2.1 hp⟩
section CNT
variable {C : Mem} {t : Nat → Int32} {n p : Nat}
theorem cnt_bad (k : Mem → Option (Int32 × Mem)) (m : Nat) {x : Int32} (h : CT C t n) (h1 : C.1 1 = nI p) (hp : p ≤ n) (hx : ¬ 60 < x) {P : Nat} (hb : Bad t n p P) : ∃ C', f_X1_countCommands_L6 k (m + 1) x C = some (-1, C') := by
  obtain ⟨C', e, -, -⟩ := (c_command h h1 hp).2 P hb
  exact ⟨C', by rw [f_X1_countCommands_L6, if_neg hx, e]; rfl⟩
theorem cnt_good (k : Mem → Option (Int32 × Mem)) (m : Nat) {x : Int32} (h : CT C t n) (h1 : C.1 1 = nI p) (hp : p ≤ n) (hx : ¬ 60 < x) {v : Nat} (hg : Good t n p v) : ∃ C', CT C' t n ∧ C'.1 1 = nI (fr t n (wd v) p).2.1 ∧
    ((n ≤ (fr t n (wd v) p).2.1 ∧ f_X1_countCommands_L6 k (m + 1) x C = some (x, C')) ∨ (f_X1_countCommands_L6 k (m + 1) x C = some (-1, C')) ∨ ((fr t n (wd v) p).2.1 < n ∧ t (fr t n (wd v) p).2.1 = 59 ∧ f_X1_countCommands_L6 k (m + 1) x C = f_X1_countCommands_L6 k m (x + 1) (wrI C' 1 (nI ((fr t n (wd v) p).2.1 + 1))))) := by
  obtain ⟨C', e, hC, h2, -⟩ := (c_command h h1 hp).1 v hg
  have hle := (hg.lt hp).2
  have hn := hC.2.1
  refine ⟨C', hC, h2, ?_⟩
  generalize (fr t n (wd v) p).2.1 = e9 at *
  have e1 : f_X1_countCommands_L6 k (m + 1) x C = (if (C'.1 1) < (C'.1 0) then
          if ib (C'.1 1) 60 = true then
          if (C'.2 0 (Int32.toNatClampNeg (C'.1 1))) = 59 then
            (f_X1_skipSemicolon C').bind fun C_11 =>
            f_X1_countCommands_L6 k m (x + 1) C_11
          else
            some ((-1), C')
          else none
        else
          some (x, C')) := by
    rw [f_X1_countCommands_L6, if_neg hx, e]
    rfl
  rw [e1, h2, hC.1]
  rcases Nat.lt_or_ge e9 n with h4 | h4
  · rw [if_pos (nI_lt h4 (by omega)), if_pos (ib_nI (by omega) (by omega)), nI_clamp (by omega), (hC.2.2 e9 h4).1]
    by_cases h5 : t e9 = 59
    · rw [if_pos h5]
      refine Or.inr (Or.inr ⟨h4, h5, ?_⟩)
      show f_X1_countCommands_L6 k m (x + 1) (wrI C' 1 (C'.1 1 + 1)) = _
      rw [h2, nI_1]
    · rw [if_neg h5]
      exact Or.inr (Or.inl rfl)
  · rw [if_neg (nI_nlt h4 (by omega))]
    exact Or.inl ⟨h4, rfl⟩
/-- how many commands a text of the law's holds -/
theorem lt_count {sm : Nat} (h : CT C t n) (L : LT t n sm) : (∃ C', f_X1_countCommands C = some (-1, C')) ∨ (∃ C1, f_X1_countCommands C = some (nI 1, C1) ∧ CT C1 t n ∧ Good t n 0 2) ∨ ∃ C1 v, f_X1_countCommands C = some (nI 2, C1) ∧ CT C1 t n ∧ Good t n 0 2 ∧ (v = 3 ∨ v = 4) ∧ (fr t n (wd 2) 0).2.1 + 1 ≤ n ∧ Good t n ((fr t n (wd 2) 0).2.1 + 1) v := by
  have e0 : f_X1_countCommands C = f_X1_countCommands_L6 (fun C_13 => some (-1, C_13)) 70 1 (wrI C 1 0) := rfl
  rw [e0]
  have h0 : CT (wrI C 1 0) t n := h.move rfl (fun _ => rfl)
  rcases good_or t n 0 with ⟨v, hg⟩ | ⟨P, hb⟩
  · obtain rfl : v = 2 := vb_o v hg.1.1 (hg.1.2.2.1.symm.trans L.1)
    obtain ⟨C1, c1, c2, c3⟩ := cnt_good (fun C_13 => some (-1, C_13)) 69 (x := 1) h0 rfl (Nat.zero_le n) (by decide) hg
    have hle := hg.lt (Nat.zero_le n)
    rcases c3 with ⟨-, c3⟩ | c3 | ⟨c4, c5, c3⟩
    · exact Or.inr (Or.inl ⟨C1, c3, c1, hg⟩)
    · exact Or.inl ⟨C1, c3⟩
    · have hsm := L.2.1 _ c4 c5
      have hp2 : (fr t n (wd 2) 0).2.1 + 1 ≤ n := c4
      have h2 : CT (wrI C1 1 (nI ((fr t n (wd 2) 0).2.1 + 1))) t n := c1.move rfl (fun _ => rfl)
      rcases good_or t n ((fr t n (wd 2) 0).2.1 + 1) with ⟨v, hg2⟩ | ⟨P, hb⟩
      · have hv : v = 3 ∨ v = 4 := by
          have a1 := hg2.1.2.1
          have a2 := hg2.1.2.2.1
          rw [hsm] at a1 a2
          rcases L.2.2 a1 with a3 | a3
          · exact Or.inl (vb_w v hg2.1.1 (a2.symm.trans a3))
          · exact Or.inr (vb_q v hg2.1.1 (a2.symm.trans a3))
        obtain ⟨C2, d1, d2, d3⟩ := cnt_good (fun C_13 => some (-1, C_13)) 68 (x := 1 + 1) h2 rfl hp2 (by decide) hg2
        have hle2 := hg2.lt hp2
        rcases d3 with ⟨-, d3⟩ | d3 | ⟨d4, d5, d3⟩
        · exact Or.inr (Or.inr ⟨C2, v, c3.trans d3, d1, hg, hv, hp2, hg2⟩)
        · exact Or.inl ⟨C2, c3.trans d3⟩
        · exact absurd (hsm.trans (L.2.1 _ d4 d5).symm) (Nat.ne_of_lt (Nat.lt_of_succ_lt hle2.1))
      · obtain ⟨C', e⟩ := cnt_bad (fun C_13 => some (-1, C_13)) 68 (x := 1 + 1) h2 rfl hp2 (by decide) hb
        exact Or.inl ⟨C', c3.trans e⟩
  · obtain ⟨C', e⟩ := cnt_bad (fun C_13 => some (-1, C_13)) 69 (x := 1) h0 rfl (Nat.zero_le n) (by decide) hb
    exact Or.inl ⟨C', e⟩
end CNT
section PRF
variable {C S : Mem} {t : Nat → Int32} {N n p c tt q : Nat}
theorem Gd.keepN {M' c' t' q' : Nat} {S' : Mem} (h : Gd N S c tt q) (g : Gd M' S' c' t' q') (m : Mild S S') : Gd N S' c t' q' := by
  have hc := h.c16
  have hc' := g.c16
  have e : c' = c := h.ascEq hc' g.c1 m.1
  subst e
  exact ⟨g.1, g.2.1, g.2.2.1, g.I, ⟨by rw [m.2.1]; exact h.D.1, fun p hp => by rw [m.2.2.2.2]; exact h.D.2 p hp⟩, g.A⟩
theorem pf_2 (h : C.1 2 = nI 2) : f_X4_perform S C = f_X4_openLot S (C.2 1 (Int32.toNatClampNeg 0)) := by
  rw [f_X4_perform, if_pos (by decide), if_pos (by decide), if_pos (by decide), h, if_neg (by decide), if_neg (by decide), if_pos (by decide)]
  cases f_X4_openLot S (C.2 1 (Int32.toNatClampNeg 0)) <;> rfl
theorem pf_3 (h : C.1 2 = nI 3) : f_X4_perform S C = f_X4_wetLot S (C.2 1 (Int32.toNatClampNeg 0)) := by
  rw [f_X4_perform, if_pos (by decide), if_pos (by decide), if_pos (by decide), h, if_neg (by decide), if_neg (by decide), if_neg (by decide), if_pos (by decide)]
  cases f_X4_wetLot S (C.2 1 (Int32.toNatClampNeg 0)) <;> rfl
theorem pf_4 (h : C.1 2 = nI 4) : f_X4_perform S C = f_X4_queueLot S (C.2 1 (Int32.toNatClampNeg 0)) := by
  rw [f_X4_perform, if_pos (by decide), if_pos (by decide), if_pos (by decide), h, if_neg (by decide), if_neg (by decide), if_neg (by decide), if_neg (by decide), if_pos (by decide)]
  cases f_X4_queueLot S (C.2 1 (Int32.toNatClampNeg 0)) <;> rfl
theorem pf_any (G : Gd N S c tt q) {v : Nat} (hv : v = 2 ∨ v = 3 ∨ v = 4) (h : C.1 2 = nI v) : (∃ r : Int32, ¬ 0 ≤ r ∧ f_X4_perform S C = some (r, S)) ∨ ∃ (r : Nat) (S' : Mem) (t' q' : Nat), r < 2 ^ 31 ∧ f_X4_perform S C = some (nI r, S') ∧ Gd N S' c t' q' ∧ Mild S S' := by
  have hneg : ∀ E : String, E ∈ [eNSE, eISE] → ¬ 0 ≤ numE E := fun E hE => Int32.not_le.mpr (numE_neg ((by decide +kernel : ∀ x ∈ ([eNSE, eISE] : List String), x ∈ excL) E hE))
  rcases hv with rfl | rfl | rfl
  · rw [pf_2 h]
    rcases g_open G (C.2 1 (Int32.toNatClampNeg 0)) with ⟨E, hE, e⟩ | ⟨r, S', t', q', hr, e, g, m⟩
    · exact Or.inl ⟨_, hneg E hE, e⟩
    · exact Or.inr ⟨r, S', t', q', hr, e, G.keepN g m, m⟩
  · rw [pf_3 h]
    rcases g_wet G (C.2 1 (Int32.toNatClampNeg 0)) with ⟨E, hE, e⟩ | ⟨r, S', t', q', hr, e, g, m⟩
    · exact Or.inl ⟨_, hneg E hE, e⟩
    · exact Or.inr ⟨r, S', t', q', hr, e, G.keepN g m, m⟩
  · rw [pf_4 h]
    rcases g_queue G (C.2 1 (Int32.toNatClampNeg 0)) with ⟨E, hE, e⟩ | ⟨r, S', t', q', hr, e, g, m⟩
    · exact Or.inl ⟨_, hneg E hE, e⟩
    · exact Or.inr ⟨r, S', t', q', hr, e, G.keepN g m, m⟩
theorem pf_step (K : Mem) (k : Mem → Mem → Option (Int32 × Mem × Mem)) (m : Nat) {x1 x2 : Int32} (h : CT C t n) (h1 : C.1 1 = nI p) (hp : p ≤ n) (hx : ¬ x1 ≤ x2) {v : Nat} (hg : Good t n p v) (hv : v = 2 ∨ v = 3 ∨ v = 4) (G : Gd N S c tt q) :
    (∃ C', f_X6_performFirst_L9 x1 K k (m + 1) x2 S C = some (x2, S, C')) ∨ ∃ (C' S' : Mem) (t' q' : Nat), CT C' t n ∧ C'.1 1 = nI ((fr t n (wd v) p).2.1 + 1) ∧ Gd N S' c t' q' ∧ Mild S S' ∧ f_X6_performFirst_L9 x1 K k (m + 1) x2 S C = f_X6_performFirst_L9 x1 K k m (x2 + 1) S' C' := by
  obtain ⟨C', e, hC, h2, h3, -⟩ := (c_command h h1 hp).1 v hg
  have e1 : f_X6_performFirst_L9 x1 K k (m + 1) x2 S C = (f_X4_perform S C').bind fun (r8, S_9) =>
        if 0 ≤ r8 then
          (f_X1_skipSemicolon C').bind fun C_12 =>
          f_X6_performFirst_L9 x1 K k m (x2 + 1) S_9 C_12
        else
          some (x2, S_9, C') := by
    rw [f_X6_performFirst_L9, if_neg hx, e]
    rfl
  rcases pf_any (C := C') G hv h3 with ⟨r, hr, e2⟩ | ⟨r, S', t', q', hr, e2, g, m9⟩
  · refine Or.inl ⟨C', ?_⟩
    rw [e1, e2]
    show (if 0 ≤ r then _ else some (x2, S, C')) = _
    rw [if_neg hr]
  · refine Or.inr ⟨wrI C' 1 (nI ((fr t n (wd v) p).2.1 + 1)), S', t', q', hC.move rfl (fun _ => rfl), rfl, g, m9, ?_⟩
    rw [e1, e2]
    show (if 0 ≤ nI r then f_X6_performFirst_L9 x1 K k m (x2 + 1) S' (wrI C' 1 (C'.1 1 + 1)) else _) = _
    rw [if_pos (nI_pos' hr), h2, nI_1]
/-- a text of the law's, executed -/
theorem lt_exec (K : Mem) {sm : Nat} (h : CT C t n) (L : LT t n sm) (G : Gd N S c tt q) : (∃ C', f_X1_countCommands C = some (-1, C')) ∨
    ∃ (mm : Nat) (C1 S' C' : Mem) (t' q' : Nat), mm ≤ 2 ∧ f_X1_countCommands C = some (nI mm, C1) ∧ Gd N S' c t' q' ∧ Mild S S' ∧ ((∃ ii, ii < mm ∧ f_X6_performFirst K S C1 (nI mm) = some (nI ii, S', C')) ∨ f_X6_performFirst K S C1 (nI mm) = some (nI mm, S', C')) := by
  have pf0 : ∀ (C1 : Mem) (x : Int32), f_X6_performFirst K S C1 x = f_X6_performFirst_L9 x K (fun S_14 C_14 => some (x, S_14, C_14)) 70 0 S (wrI C1 1 0) := fun _ _ => rfl
  have pfE : ∀ (x : Int32) (m : Nat) (S C : Mem), f_X6_performFirst_L9 x K (fun S_14 C_14 => some (x, S_14, C_14)) (m + 1) x S C = some (x, S, C) := fun x m S C => by
    rw [f_X6_performFirst_L9, if_pos (Int32.le_refl x)]
  rcases lt_count h L with h1 | ⟨C1, h1, h2, h3⟩ | ⟨C1, v, h1, h2, h3, h4, h5, h6⟩
  · exact Or.inl h1
  · refine Or.inr ?_
    rcases pf_step K (fun S_14 C_14 => some (nI 1, S_14, C_14)) 69 (x1 := nI 1) (x2 := 0) (C := wrI C1 1 0) (h2.move rfl (fun _ => rfl)) rfl (Nat.zero_le n) (by decide) h3 (Or.inl rfl) G with ⟨C', e⟩ | ⟨C', S', t', q', a1, a2, a3, a4, e⟩
    · exact ⟨1, C1, S, C', tt, q, by omega, h1, G, Mild.rf S, Or.inl ⟨0, by omega, by rw [pf0]; exact e⟩⟩
    · exact ⟨1, C1, S', C', t', q', by omega, h1, a3, a4, Or.inr (by rw [pf0, e]; exact pfE (nI 1) 68 S' C')⟩
  · refine Or.inr ?_
    rcases pf_step K (fun S_14 C_14 => some (nI 2, S_14, C_14)) 69 (x1 := nI 2) (x2 := 0) (C := wrI C1 1 0) (h2.move rfl (fun _ => rfl)) rfl (Nat.zero_le n) (by decide) h3 (Or.inl rfl) G with ⟨C', e⟩ | ⟨C', S', t', q', a1, a2, a3, a4, e⟩
    · exact ⟨2, C1, S, C', tt, q, by omega, h1, G, Mild.rf S, Or.inl ⟨0, by omega, by rw [pf0]; exact e⟩⟩
    · rcases pf_step K (fun S_14 C_14 => some (nI 2, S_14, C_14)) 68 (x1 := nI 2) (x2 := 0 + 1) a1 a2 h5 (by decide) h6 (Or.inr h4) a3 with ⟨C2, e2⟩ | ⟨C2, S2, t2, q2, b1, b2, b3, b4, e2⟩
      · exact ⟨2, C1, S', C2, t', q', by omega, h1, a3, a4, Or.inl ⟨1, by omega, by rw [pf0, e, e2]; rfl⟩⟩
      · exact ⟨2, C1, S2, C2, t2, q2, by omega, h1, b3, a4.tr b4, Or.inr (by rw [pf0, e, e2]; exact pfE (nI 2) 67 S2 C2)⟩
end PRF
/-- the input buffer holds the first k letters of L -/
def FD (C : Mem) (L : List Nat) (k : Nat) : Prop := C.1 0 = nI k ∧ ∀ i, i < k → ∃ ch, ch < 128 ∧ L[i]? = some ch ∧ C.2 0 i = nI ch
theorem FD.put {C : Mem} {L : List Nat} {k ch : Nat} (h : FD C L k) (hk : k < 60) (hch : ch < 128) (hL : L[k]? = some ch) : ∃ C', f_X1_append C (nI ch) = some (1, C') ∧ C'.1 0 = nI (k + 1) ∧ FD C' L (k + 1) := by
  have e : f_X1_append C (nI ch) = some (1, wrI (wrA C 0 (C.1 0) (vp_nar .char (nI ch))) 0 (C.1 0 + 1)) := by
    rw [f_X1_append, h.1, if_pos (show nI k < 60 from nI_lt (b := 60) hk (by omega)), if_pos (ib_nI (by omega) (by omega))]
  have e0 : (wrI (wrA C 0 (C.1 0) (vp_nar .char (nI ch))) 0 (C.1 0 + 1)).1 0 = nI (k + 1) := by
    show C.1 0 + 1 = _
    rw [h.1, nI_1]
  refine ⟨_, e, e0, e0, fun i hi => ?_⟩
  have hn : vp_nar .char (nI ch) = nI ch := by
    have := (by decide +kernel : ∀ c < 128, vp_nar .char (nI c) = nI c)
    exact this ch hch
  have ev : (wrI (wrA C 0 (C.1 0) (vp_nar .char (nI ch))) 0 (C.1 0 + 1)).2 0 i = if i = k then nI ch else C.2 0 i := by
    show (if i = (C.1 0).toNatClampNeg then vp_nar .char (nI ch) else C.2 0 i) = _
    rw [h.1, nI_clamp (by omega), hn]
  rw [ev]
  by_cases z : i = k
  · subst z
    exact ⟨ch, hch, hL, if_pos rfl⟩
  · rw [if_neg z]
    exact h.2 i (by omega)
/-- the texts -/
def txL (v a : Nat) : List Nat := (chU.getD 0 [] ++ dgN a) ++ (if v = 3 then chU.getD 3 [] else chU.getD v [] ++ dgN a)
def txB (v a : Nat) : Bool := decide ((txL v a).length ≤ 16) && decide (0 < (txL v a).length) && decide ((txL v a).getD 0 0 = 111) && (List.range (txL v a).length).all (fun i => decide ((txL v a).getD i 0 = 59 → i = 5 + (dgN a).length)) && decide (5 + (dgN a).length + 1 < (txL v a).length → (txL v a).getD (5 + (dgN a).length + 1) 0 = 119 ∨ (txL v a).getD (5 + (dgN a).length + 1) 0 = 113)
theorem txB_ok : ∀ a < 100, ∀ v < 4, 1 ≤ v → txB v a = true := by decide +kernel
theorem txL_ok {a v : Nat} (ha : a < 100) (hv : v < 4) (hv1 : 1 ≤ v) : (txL v a).length ≤ 16 ∧ 0 < (txL v a).length ∧ (txL v a).getD 0 0 = 111 ∧ (∀ i, i < (txL v a).length → (txL v a).getD i 0 = 59 → i = 5 + (dgN a).length) ∧ (5 + (dgN a).length + 1 < (txL v a).length → (txL v a).getD (5 + (dgN a).length + 1) 0 = 119 ∨ (txL v a).getD (5 + (dgN a).length + 1) 0 = 113) := by
  have h := txB_ok a ha v hv hv1
  simp only [txB, Bool.and_eq_true, decide_eq_true_eq, List.all_eq_true, List.mem_range] at h
  exact ⟨h.1.1.1.1, h.1.1.1.2, h.1.1.2, h.1.2, h.2⟩
theorem nI_ch : ∀ c < 128, ∀ d < 128, nI c = nI d → c = d := by decide +kernel
theorem FD.ct {C : Mem} {a v : Nat} (ha : a < 100) (hv : v < 4) (hv1 : 1 ≤ v) (h : FD C (txL v a) (txL v a).length) : ∃ t sm, CT C t (txL v a).length ∧ LT t (txL v a).length sm := by
  obtain ⟨h1, h2, h3, h4, h5⟩ := txL_ok ha hv hv1
  have hg : ∀ i, i < (txL v a).length → (txL v a).getD i 0 < 128 ∧ C.2 0 i = nI ((txL v a).getD i 0) := fun i hi => by
    obtain ⟨ch, c1, c2, c3⟩ := h.2 i hi
    rw [show (txL v a).getD i 0 = ch by rw [List.getD_eq_getElem?_getD, c2]; rfl]
    exact ⟨c1, c3⟩
  refine ⟨fun i => C.2 0 i, 5 + (dgN a).length, ⟨h.1, by omega, fun i hi => ⟨rfl, (txL v a).getD i 0, by have := (hg i hi).1; omega, (hg i hi).2⟩⟩, ?_, fun i hi e => ?_, fun hi => ?_⟩
  · show C.2 0 0 = 111
    rw [(hg 0 h2).2, h3]
    rfl
  · have e : C.2 0 i = 59 := e
    rw [(hg i hi).2] at e
    exact h4 i hi (nI_ch _ (hg i hi).1 59 (by omega) e)
  · show C.2 0 _ = 119 ∨ C.2 0 _ = 113
    rw [(hg _ hi).2]
    rcases h5 hi with e | e
    · exact Or.inl (by rw [e]; rfl)
    · exact Or.inr (by rw [e]; rfl)
