/-! .. a command, the class -/
def fst (u : Nat) : Int32 := (wd u).headD 0
theorem wd_cons : ∀ u, u < 11 → wd u = fst u :: (wd u).tail ∧ fst u ≠ 35 ∧ fst u ≠ 37 ∧ fst u ≠ -1 ∧ 3 ≤ (wd u).length ∧ n35 (wd u) ≤ 3 := by
  have h : (List.range 11).all (fun u => decide (wd u = fst u :: (wd u).tail ∧ fst u ≠ 35 ∧ fst u ≠ 37 ∧ fst u ≠ -1 ∧ 3 ≤ (wd u).length ∧ n35 (wd u) ≤ 3)) = true := by decide +kernel
  intro u hu
  have := List.all_eq_true.mp h u (List.mem_range.mpr hu)
  exact of_decide_eq_true this
theorem fst_inj : ∀ u v, u < 11 → v < 11 → fst u = fst v → u = v ∨ (u = 1 ∧ v = 8) ∨ (u = 8 ∧ v = 1) := by
  have h : (List.range 11).all (fun u => (List.range 11).all (fun v => decide (fst u = fst v → u = v ∨ (u = 1 ∧ v = 8) ∨ (u = 8 ∧ v = 1)))) = true := by decide +kernel
  intro u v hu hv
  have h1 := List.all_eq_true.mp h u (List.mem_range.mpr hu)
  have h2 := List.all_eq_true.mp h1 v (List.mem_range.mpr hv)
  exact of_decide_eq_true h2
theorem form_of : ∀ u, u < 11 → f_X1_formOf (nI u) = some u := by
  have h : (List.range 11).all (fun u => decide (f_X1_formOf (nI u) = some u)) = true := by decide +kernel
  intro u hu
  have := List.all_eq_true.mp h u (List.mem_range.mpr hu)
  exact of_decide_eq_true this
/-- the command that a text can begin with at p -/
def Disp (t : Nat → Int32) (n p v : Nat) : Prop := v < 11 ∧ p < n ∧ t p = fst v ∧ (v = 8 → p + 1 < n ∧ t (p + 1) = 116) ∧ (v = 1 → ¬ (p + 1 < n ∧ t (p + 1) = 116))
def NoDisp (t : Nat → Int32) (n p : Nat) : Prop := ∀ u, u < 11 → ¬ (p < n ∧ t p = fst u)
section TEXT2
variable {C : Mem} {t : Nat → Int32} {n : Nat}
theorem fr_lit {c : Int32} {w : List Int32} {p : Nat} (h5 : c ≠ 35) (h7 : c ≠ 37) : fr t n (c :: w) p = if p < n ∧ t p = c then fr t n w (p + 1) else (false, p, []) := by
  rw [fr, if_neg h5]
  have hq : okc c (t p) = decide (t p = c) := by
    unfold okc
    rw [if_neg h7]
  by_cases e : p < n ∧ t p = c
  · rw [if_pos e, if_pos ⟨e.1, by rw [hq]; exact decide_eq_true e.2⟩]
  · rw [if_neg e, if_neg (fun g => e ⟨g.1, by have h9 := g.2; rw [hq] at h9; exact of_decide_eq_true h9⟩)]
theorem fr_no {u p : Nat} (hu : u < 11) (h : ¬ (p < n ∧ t p = fst u)) : fr t n (wd u) p = (false, p, []) := by
  obtain ⟨a1, a2, a3, -⟩ := wd_cons u hu
  rw [a1, fr_lit a2 a3, if_neg h]
theorem disp_or (t : Nat → Int32) (n p : Nat) : (∃ v, Disp t n p v) ∨ NoDisp t n p := by
  by_cases h : ∃ u, u < 11 ∧ p < n ∧ t p = fst u
  · obtain ⟨u, h1, h2, h3⟩ := h
    refine Or.inl ?_
    by_cases e : t p = fst 1
    · by_cases g : p + 1 < n ∧ t (p + 1) = 116
      · exact ⟨8, by omega, h2, by rw [e]; decide +kernel, fun _ => g, fun h => by omega⟩
      · exact ⟨1, by omega, h2, e, fun h => by omega, fun _ => g⟩
    · refine ⟨u, h1, h2, h3, fun h => ?_, fun h => ?_⟩
      · rw [h] at h3
        exact absurd (h3.trans (by decide +kernel)) e
      · rw [h] at h3
        exact absurd h3 e
  · exact Or.inr (fun u h1 h2 => h ⟨u, h1, h2⟩)
theorem disp_others {p v u : Nat} (h : Disp t n p v) (hu : u < 11) (hne : u ≠ v) : (fr t n (wd u) p).1 = false ∧ (fr t n (wd u) p).2.1 ≤ (fr t n (wd v) p).2.1 := by
  obtain ⟨h1, h2, h3, h4, h5⟩ := h
  by_cases e : t p = fst u
  · rcases fst_inj u v hu h1 (e.symm.trans h3) with g | ⟨g1, g2⟩ | ⟨g1, g2⟩
    · exact absurd g hne
    · subst g1 g2
      obtain ⟨k1, k2⟩ := h4 rfl
      have a1 : fr t n (wd 1) p = (false, p + 1, []) := by
        show fr t n [115, 101, 97, 108, 32, 35] p = _
        rw [fr_lit (by decide) (by decide), if_pos ⟨h2, e.trans (by decide +kernel)⟩, fr_lit (by decide) (by decide), if_neg (fun g => by rw [k2] at g; exact absurd g.2 (by decide))]
      have a2 : p + 1 ≤ (fr t n (wd 8) p).2.1 := by
        show p + 1 ≤ (fr t n [115, 116, 101, 112, 32, 35, 61, 35] p).2.1
        rw [fr_lit (by decide) (by decide), if_pos ⟨h2, h3.trans (by decide +kernel)⟩]
        exact (fr_le t n _ (p + 1)).1
      rw [a1]
      exact ⟨rfl, a2⟩
    · subst g1 g2
      have k := h5 rfl
      have a1 : fr t n (wd 8) p = (false, p + 1, []) := by
        show fr t n [115, 116, 101, 112, 32, 35, 61, 35] p = _
        rw [fr_lit (by decide) (by decide), if_pos ⟨h2, e.trans (by decide +kernel)⟩, fr_lit (by decide) (by decide), if_neg k]
      have a2 : p + 1 ≤ (fr t n (wd 1) p).2.1 := by
        show p + 1 ≤ (fr t n [115, 101, 97, 108, 32, 35] p).2.1
        rw [fr_lit (by decide) (by decide), if_pos ⟨h2, h3.trans (by decide +kernel)⟩]
        exact (fr_le t n _ (p + 1)).1
      rw [a1]
      exact ⟨rfl, a2⟩
  · rw [fr_no hu (fun g => e g.2)]
    exact ⟨rfl, (fr_le t n _ p).1⟩
/-- a whole form -/
theorem c_readForm {u p : Nat} (hu : u < 11) (h : CT C t n) (h1 : C.1 1 = nI p) (hp : p ≤ n) :
    ((fr t n (wd u) p).1 = true → ∃ C', f_X1_readForm C u = some (1, C') ∧ CT C' t n ∧ C'.1 1 = nI (fr t n (wd u) p).2.1 ∧ C'.1 3 = kf t n (wd u) p (C.1 3) ∧ ∀ x, x < (fr t n (wd u) p).2.2.length → C'.2 1 x = (fr t n (wd u) p).2.2.getD x 0) ∧
    ((fr t n (wd u) p).1 = false → ∃ C', f_X1_readForm C u = some (0, C') ∧ CT C' t n ∧ C'.1 1 = nI (fr t n (wd u) p).2.1) := by
  obtain ⟨-, -, -, -, -, h35⟩ := wd_cons u hu
  have hlen := len_wd u (by omega)
  obtain ⟨r1, r2⟩ := c_form (t := t) (n := n) (u := u) (by omega) (fun C_12 => some (1, C_12)) (wd u) 0 40 0 p (wrI C 4 0) rfl (by omega) (by omega) (by omega) (h.move rfl (fun _ => rfl)) h1 hp rfl
  refine ⟨fun g => ?_, fun g => ?_⟩
  · obtain ⟨C', s1, s2, s3, s4, s5, s6, s7⟩ := r1 g
    refine ⟨C', s1, s2, s3, s5, fun x hx => ?_⟩
    have := s7 x hx
    rw [Nat.zero_add] at this
    exact this
  · obtain ⟨C', s1, s2, s3, s4⟩ := r2 g
    exact ⟨C', s1, s2, s3⟩
theorem c_try {u p f m : Nat} (hu : u < 11) (h : CT C t n) (hp : p ≤ n) (hf : f ≤ n) (k : Int32 → Mem → Option (Int32 × Mem)) :
    ((fr t n (wd u) p).1 = true → ∃ C', f_X1_readCommand_L9 (nI p) k (m + 1) (nI f) (nI u) C = some (1, C') ∧ CT C' t n ∧ C'.1 1 = nI (fr t n (wd u) p).2.1 ∧ C'.1 2 = nI u ∧ C'.1 3 = kf t n (wd u) p (C.1 3) ∧ ∀ x, x < (fr t n (wd u) p).2.2.length → C'.2 1 x = (fr t n (wd u) p).2.2.getD x 0) ∧
    ((fr t n (wd u) p).1 = false → ∃ C', f_X1_readCommand_L9 (nI p) k (m + 1) (nI f) (nI u) C = f_X1_readCommand_L9 (nI p) k m (nI (if f < (fr t n (wd u) p).2.1 then (fr t n (wd u) p).2.1 else f)) (nI (u + 1)) C' ∧ CT C' t n) := by
  have hn := h.2.1
  obtain ⟨r1, r2⟩ := c_readForm (C := wrI C 1 (nI p)) hu (h.move rfl (fun _ => rfl)) (by rw [wrI_1, if_pos rfl]) hp
  have hle := (fr_le t n (wd u) p).2.1 hp
  refine ⟨fun g => ?_, fun g => ?_⟩
  · obtain ⟨C', s1, s2, s3, s5, s7⟩ := r1 g
    refine ⟨wrI C' 2 (nI u), ?_, s2.move rfl (fun _ => rfl), by rw [wrI_1, if_neg (by omega), s3], by rw [wrI_1, if_pos rfl], by rw [wrI_1, if_neg (by omega), s5]; rfl, s7⟩
    rw [f_X1_readCommand_L9, li_11, if_neg (nI_ge hu (by omega)), form_of u hu, ob, s1, ob]
    dsimp only
    rw [if_neg (by decide)]
  · obtain ⟨C', s1, s2, s3⟩ := r2 g
    refine ⟨C', ?_, s2⟩
    rw [f_X1_readCommand_L9, li_11, if_neg (nI_ge hu (by omega)), form_of u hu, ob, s1, ob]
    dsimp only
    rw [if_pos rfl, s3, li_1, nI_add]
    by_cases e : f < (fr t n (wd u) p).2.1
    · rw [if_pos e, if_pos (nI_lt e (by omega))]
    · rw [if_neg e, if_neg (nI_nlt (by omega) (by omega))]
theorem c_tryAll {p : Nat} (hp : p ≤ n) (k : Int32 → Mem → Option (Int32 × Mem)) : ∀ (d i m f : Nat) (C : Mem), i + d = 11 → d < m → f ≤ n → CT C t n → (∀ u, i ≤ u → u < 11 → (fr t n (wd u) p).1 = false) →
    ∃ F C', f_X1_readCommand_L9 (nI p) k m (nI f) (nI i) C = k (nI F) C' ∧ CT C' t n ∧ f ≤ F ∧ (∀ u, i ≤ u → u < 11 → (fr t n (wd u) p).2.1 ≤ F) ∧ (F = f ∨ ∃ u, i ≤ u ∧ u < 11 ∧ F = (fr t n (wd u) p).2.1) := by
  intro d
  induction d with
  | zero =>
    intro i m f C h1 h2 h3 h4 h5
    obtain ⟨m', rfl⟩ : ∃ m', m = m' + 1 := ⟨m - 1, by omega⟩
    refine ⟨f, C, ?_, h4, Nat.le_refl f, fun u h6 h7 => absurd h7 (by omega), Or.inl rfl⟩
    rw [f_X1_readCommand_L9, li_11, if_pos (nI_le (by omega) (by omega))]
  | succ d ih =>
    intro i m f C h1 h2 h3 h4 h5
    obtain ⟨m', rfl⟩ : ∃ m', m = m' + 1 := ⟨m - 1, by omega⟩
    obtain ⟨C1, a1, a2⟩ := (c_try (m := m') (u := i) (by omega) h4 hp h3 k).2 (h5 i (Nat.le_refl i) (by omega))
    have hle := (fr_le t n (wd i) p).2.1 hp
    obtain ⟨F, C', b1, b2, hF, b3, b4⟩ := ih (i + 1) m' (if f < (fr t n (wd i) p).2.1 then (fr t n (wd i) p).2.1 else f) C1 (by omega) (by omega) (by split <;> omega) a2 (fun u h6 h7 => h5 u (by omega) h7)
    refine ⟨F, C', a1.trans b1, b2, by split at hF <;> omega, fun u h6 h7 => ?_, ?_⟩
    · by_cases e : u = i
      · rw [e]
        split at hF <;> omega
      · exact b3 u (by omega) h7
    · rcases b4 with b4 | ⟨u, u1, u2, u3⟩
      · by_cases e : f < (fr t n (wd i) p).2.1
        · rw [if_pos e] at b4
          exact Or.inr ⟨i, Nat.le_refl i, by omega, b4⟩
        · rw [if_neg e] at b4
          exact Or.inl b4
      · exact Or.inr ⟨u, by omega, u2, u3⟩
theorem c_tryTo {p v : Nat} (hp : p ≤ n) (hv : v < 11) (hok : (fr t n (wd v) p).1 = true) (k : Int32 → Mem → Option (Int32 × Mem)) : ∀ (d i m f : Nat) (C : Mem), i + d = v → d < m → f ≤ n → CT C t n → (∀ u, i ≤ u → u < v → (fr t n (wd u) p).1 = false) →
    ∃ C' K, f_X1_readCommand_L9 (nI p) k m (nI f) (nI i) C = some (1, C') ∧ CT C' t n ∧ C'.1 1 = nI (fr t n (wd v) p).2.1 ∧ C'.1 2 = nI v ∧ C'.1 3 = kf t n (wd v) p K ∧ ∀ x, x < (fr t n (wd v) p).2.2.length → C'.2 1 x = (fr t n (wd v) p).2.2.getD x 0 := by
  intro d
  induction d with
  | zero =>
    intro i m f C h1 h2 h3 h4 h5
    obtain ⟨m', rfl⟩ : ∃ m', m = m' + 1 := ⟨m - 1, by omega⟩
    have e : i = v := by omega
    subst e
    obtain ⟨C', s1, s2, s3, s4, s5, s6⟩ := (c_try (m := m') hv h4 hp h3 k).1 hok
    exact ⟨C', _, s1, s2, s3, s4, s5, s6⟩
  | succ d ih =>
    intro i m f C h1 h2 h3 h4 h5
    obtain ⟨m', rfl⟩ : ∃ m', m = m' + 1 := ⟨m - 1, by omega⟩
    obtain ⟨C1, a1, a2⟩ := (c_try (m := m') (u := i) (by omega) h4 hp h3 k).2 (h5 i (Nat.le_refl i) (by omega))
    have hle := (fr_le t n (wd i) p).2.1 hp
    obtain ⟨C', K, b1, b2⟩ := ih (i + 1) m' (if f < (fr t n (wd i) p).2.1 then (fr t n (wd i) p).2.1 else f) C1 (by omega) (by omega) (by split <;> omega) a2 (fun u h6 h7 => h5 u (by omega) h7)
    exact ⟨C', K, a1.trans b1, b2⟩
theorem kf_0 (p : Nat) (K : Int32) : kf t n (wd 0) p K = t (p + 4) := by
  show kf t n [108, 111, 116, 32, 37, 35, 42, 35, 64, 35] p K = _
  simp [kf]
/-- how a command at p ends: with the command v, or at the place P where no text can go on -/
def Bad (t : Nat → Int32) (n p P : Nat) : Prop := (NoDisp t n p ∧ P = p) ∨ ∃ v, Disp t n p v ∧ (fr t n (wd v) p).1 = false ∧ P = (fr t n (wd v) p).2.1
def Good (t : Nat → Int32) (n p v : Nat) : Prop := Disp t n p v ∧ (fr t n (wd v) p).1 = true
theorem good_or (t : Nat → Int32) (n p : Nat) : (∃ v, Good t n p v) ∨ ∃ P, Bad t n p P := by
  rcases disp_or t n p with ⟨v, h⟩ | h
  · by_cases e : (fr t n (wd v) p).1 = true
    · exact Or.inl ⟨v, h, e⟩
    · exact Or.inr ⟨_, Or.inr ⟨v, h, by simpa using e, rfl⟩⟩
  · exact Or.inr ⟨p, Or.inl ⟨h, rfl⟩⟩
theorem c_command {p : Nat} (h : CT C t n) (h1 : C.1 1 = nI p) (hp : p ≤ n) :
    (∀ v, Good t n p v → ∃ C', f_X1_readCommand C = some (1, C') ∧ CT C' t n ∧ C'.1 1 = nI (fr t n (wd v) p).2.1 ∧ C'.1 2 = nI v ∧ (v = 0 → C'.1 3 = t (p + 4)) ∧ ∀ x, x < (fr t n (wd v) p).2.2.length → C'.2 1 x = (fr t n (wd v) p).2.2.getD x 0) ∧
    (∀ P, Bad t n p P → ∃ C', f_X1_readCommand C = some (0, C') ∧ CT C' t n ∧ C'.1 1 = nI P) := by
  refine ⟨fun v ⟨hd, hok⟩ => ?_, fun P hb => ?_⟩
  · obtain ⟨C', K, s1, s2, s3, s4, s5, s6⟩ := c_tryTo hp hd.1 hok (fun y8_2 C_8 => some (0, (wrI C_8 1 y8_2))) v 0 70 p C (by omega) (by have := hd.1; omega) hp h (fun u _ hu => (disp_others hd (by have := hd.1; omega) (by omega)).1)
    refine ⟨C', ?_, s2, s3, s4, fun e => ?_, s6⟩
    · rw [f_X1_readCommand, h1]
      exact s1
    · rw [s5, e, kf_0]
  · have hall : ∀ u, 0 ≤ u → u < 11 → (fr t n (wd u) p).1 = false := by
      intro u _ hu
      rcases hb with ⟨hn, -⟩ | ⟨v, hd, hf, -⟩
      · rw [fr_no hu (hn u hu)]
      · by_cases e : u = v
        · rw [e]
          exact hf
        · exact (disp_others hd hu e).1
    obtain ⟨F, C', s1, s2, s3, s4, s5⟩ := c_tryAll hp (fun y8_2 C_8 => some (0, (wrI C_8 1 y8_2))) 11 0 70 p C (by omega) (by omega) hp h hall
    have hFP : F = P := by
      rcases hb with ⟨hn, rfl⟩ | ⟨v, hd, hf, rfl⟩
      · rcases s5 with s5 | ⟨u, u1, u2, u3⟩
        · exact s5
        · rw [u3, fr_no u2 (hn u u2)]
      · have hv := s4 v (by omega) hd.1
        have hge := (fr_le t n (wd v) p).1
        rcases s5 with s5 | ⟨u, u1, u2, u3⟩
        · omega
        · by_cases e : u = v
          · rw [u3, e]
          · have := (disp_others hd u2 e).2
            omega
    refine ⟨wrI C' 1 (nI F), ?_, s2.move rfl (fun _ => rfl), by rw [wrI_1, if_pos rfl, hFP]⟩
    rw [f_X1_readCommand, h1]
    exact s1
end TEXT2
