/-! TEXT: what a form reads; the class' reading -/
def dg (x : Int32) : Bool := !(decide (x < 48) || decide (57 < x))
/-- how many digits, at most k; their number -/
def nd (t : Nat → Int32) (n : Nat) : Nat → Nat → Nat
  | 0, _ => 0
  | k + 1, p => if p < n ∧ dg (t p) = true then 1 + nd t n k (p + 1) else 0
def dv (t : Nat → Int32) : Nat → Nat → Int32 → Int32
  | 0, _, a => a
  | d + 1, p, a => dv t d (p + 1) (a * 10 + (t p - 48))
def okc (c x : Int32) : Bool := if c = 37 then !(decide (x < 97) || decide (101 < x)) else decide (x = c)
/-- a form read at p: whether it fits, how far it comes, its numbers -/
def fr (t : Nat → Int32) (n : Nat) : List Int32 → Nat → Bool × Nat × List Int32
  | [], p => (true, p, [])
  | c :: w, p => if c = 35 then (if nd t n 4 p = 0 then (false, p, []) else ((fr t n w (p + nd t n 4 p)).1, (fr t n w (p + nd t n 4 p)).2.1, dv t (nd t n 4 p) p 0 :: (fr t n w (p + nd t n 4 p)).2.2)) else if p < n ∧ okc c (t p) = true then fr t n w (p + 1) else (false, p, [])
/-- the kind that it reads -/
def kf (t : Nat → Int32) (n : Nat) : List Int32 → Nat → Int32 → Int32
  | [], _, a => a
  | c :: w, p, a => if c = 35 then kf t n w (p + nd t n 4 p) a else kf t n w (p + 1) (if c = 37 then t p else a)
theorem nd_le (t : Nat → Int32) (n : Nat) : ∀ k p, nd t n k p ≤ k ∧ (p ≤ n → p + nd t n k p ≤ n) := by
  intro k
  induction k with
  | zero => intro p; exact ⟨Nat.le_refl 0, fun h => h⟩
  | succ k ih =>
    intro p
    rw [nd]
    by_cases e : p < n ∧ dg (t p) = true
    · rw [if_pos e]
      have := ih (p + 1)
      exact ⟨by omega, fun _ => by have := this.2 (by omega); omega⟩
    · rw [if_neg e]
      exact ⟨by omega, fun h => h⟩
theorem fr_le (t : Nat → Int32) (n : Nat) : ∀ w p, p ≤ (fr t n w p).2.1 ∧ (p ≤ n → (fr t n w p).2.1 ≤ n) ∧ ((fr t n w p).1 = true → p + w.length ≤ (fr t n w p).2.1) := by
  intro w
  induction w with
  | nil => intro p; exact ⟨Nat.le_refl p, fun h => h, fun _ => Nat.le_refl p⟩
  | cons c w ih =>
    intro p
    rw [fr]
    by_cases e : c = 35
    · rw [if_pos e]
      by_cases d : nd t n 4 p = 0
      · rw [if_pos d]
        exact ⟨Nat.le_refl p, fun h => h, fun h => by cases h⟩
      · rw [if_neg d]
        obtain ⟨a1, a2, a3⟩ := ih (p + nd t n 4 p)
        refine ⟨by simp only; omega, fun h => a2 ((nd_le t n 4 p).2 h), fun h => ?_⟩
        have := a3 h
        simp only [List.length_cons]
        omega
    · rw [if_neg e]
      by_cases d : p < n ∧ okc c (t p) = true
      · rw [if_pos d]
        obtain ⟨a1, a2, a3⟩ := ih (p + 1)
        refine ⟨by omega, fun h => a2 (by omega), fun h => ?_⟩
        have := a3 h
        simp only [List.length_cons]
        omega
      · rw [if_neg d]
        exact ⟨Nat.le_refl p, fun h => h, fun h => by cases h⟩
/-- the text t of n characters is in the class' buffer -/
def CT (C : Mem) (t : Nat → Int32) (n : Nat) : Prop := C.1 0 = nI n ∧ n ≤ 60 ∧ ∀ i, i < n → C.2 0 i = t i ∧ ∃ v : Nat, v < 65536 ∧ t i = nI v
theorem wrI_self {C : Mem} {k : Nat} {v : Int32} (h : C.1 k = v) : wrI C k v = C := by
  refine Prod.ext (funext fun j => ?_) rfl
  show (if j = k then v else C.1 j) = C.1 j
  by_cases e : j = k
  · rw [if_pos e, e, h]
  · rw [if_neg e]
theorem CT.move {C C' : Mem} {t : Nat → Int32} {n : Nat} (h : CT C t n) (h1 : C'.1 0 = C.1 0) (h2 : ∀ i, C'.2 0 i = C.2 0 i) : CT C' t n := ⟨by rw [h1, h.1], h.2.1, fun i hi => by rw [h2 i]; exact h.2.2 i hi⟩
section TEXT
variable {C : Mem} {t : Nat → Int32} {n : Nat}
theorem c_isDigit (x : Int32) : f_X1_isDigit x = some (if dg x = true then 1 else 0) := by
  unfold f_X1_isDigit dg
  by_cases a : x < 48
  · simp [a]
  · by_cases b : 57 < x
    · simp [a, b]
    · simp [a, b]
theorem c_numLoop (k : Int32 → Int32 → Mem → Option (Int32 × Mem)) : ∀ (d i m p : Nat) (a : Int32) (C : Mem), i + d = 4 → d < m → CT C t n → C.1 1 = nI p → p ≤ n → f_X1_readNumber_L4 k m a (nI i) C = k (dv t (nd t n d p) p a) (nI (i + nd t n d p)) (wrI C 1 (nI (p + nd t n d p))) := by
  intro d
  induction d with
  | zero =>
    intro i m p a C h1 h2 h h3 h4
    obtain ⟨m', rfl⟩ : ∃ m', m = m' + 1 := ⟨m - 1, by omega⟩
    rw [f_X1_readNumber_L4, li_4, if_pos (nI_le (by omega) (by omega)), nd, dv, Nat.add_zero, Nat.add_zero, wrI_self h3]
  | succ d ih =>
    intro i m p a C h1 h2 h h3 h4
    obtain ⟨m', rfl⟩ : ∃ m', m = m' + 1 := ⟨m - 1, by omega⟩
    have hn := h.2.1
    rw [f_X1_readNumber_L4, li_4, if_neg (nI_ge (by omega) (by omega)), h.1, h3, nd]
    by_cases e : p < n
    · obtain ⟨c1, c2⟩ := h.2.2 p e
      rw [if_neg (nI_ge e (by omega)), if_pos (ib_nI (by omega) (by omega)), nI_clamp (by omega), c1, c_isDigit, ob]
      by_cases g : dg (t p) = true
      · have hc : p < n ∧ dg (t p) = true := ⟨e, g⟩
        rw [if_pos hc, if_pos g, if_neg (by decide), if_pos (ib_nI (by omega) (by omega)), li_1, nI_add, nI_add]
        have := ih (i + 1) m' (p + 1) (a * 10 + (t p - 48)) (wrI C 1 (nI (p + 1))) (by omega) (by omega) (h.move rfl (fun _ => rfl)) (by rw [wrI_1, if_pos rfl]) (by omega)
        rw [this, wrI_wrI, show 1 + nd t n d (p + 1) = nd t n d (p + 1) + 1 by omega, dv, show i + 1 + nd t n d (p + 1) = i + (nd t n d (p + 1) + 1) by omega, show p + 1 + nd t n d (p + 1) = p + (nd t n d (p + 1) + 1) by omega]
      · have hc : ¬ (p < n ∧ dg (t p) = true) := fun h => g h.2
        rw [if_neg hc, if_neg g, if_pos rfl, dv, Nat.add_zero, Nat.add_zero, wrI_self h3]
    · have hc : ¬ (p < n ∧ dg (t p) = true) := fun h => e h.1
      rw [if_pos (nI_le (by omega) (by omega)), if_neg hc, dv, Nat.add_zero, Nat.add_zero, wrI_self h3]
theorem c_number (h : CT C t n) {p j : Nat} (h3 : C.1 1 = nI p) (h4 : p ≤ n) (h5 : C.1 4 = nI j) (hj : j < 3) : (nd t n 4 p = 0 → f_X1_readNumber C = some (0, C)) ∧ (nd t n 4 p ≠ 0 → f_X1_readNumber C = some (1, wrI (wrA (wrI C 1 (nI (p + nd t n 4 p))) 1 (nI j) (dv t (nd t n 4 p) p 0)) 4 (nI (j + 1)))) := by
  have hl := fun k => c_numLoop (t := t) (n := n) k 4 0 40 p 0 C (by omega) (by omega) h h3 h4
  have hd := (nd_le t n 4 p).1
  refine ⟨fun e => ?_, fun e => ?_⟩
  · rw [f_X1_readNumber]
    refine (hl _).trans ?_
    simp only [e, Nat.add_zero, wrI_self h3]
    rfl
  · rw [f_X1_readNumber]
    refine (hl _).trans ?_
    have e1 : ¬ nI (0 + nd t n 4 p) = 0 := by
      rw [li_0, nI_eq (by omega) (by omega)]
      omega
    have e2 : (wrI C 1 (nI (p + nd t n 4 p))).1 4 = nI j := by rw [wrI_1, if_neg (by omega), h5]
    rw [if_neg e1, e2, li_3, if_pos (nI_lt (by omega) (by omega)), if_pos (ib_nI (by omega) (by omega)), li_1, nI_add]
theorem c_char (h : CT C t n) {p : Nat} (h3 : C.1 1 = nI p) (h4 : p ≤ n) (c : Int32) : (p < n ∧ okc c (t p) = true → f_X1_readCharacter C c = some (1, wrI (wrI C 3 (if c = 37 then t p else C.1 3)) 1 (nI (p + 1)))) ∧ (¬ (p < n ∧ okc c (t p) = true) → f_X1_readCharacter C c = some (0, C)) := by
  have hn := h.2.1
  by_cases e : p < n
  · obtain ⟨c1, v, hv, c2⟩ := h.2.2 p e
    have hk : vp_nar .char (t p) = t p := by rw [c2]; exact vnc hv
    by_cases e37 : c = 37
    · subst e37
      have ek : f_X6_isKind (t p) = some (if okc 37 (t p) = true then 1 else 0) := by
        unfold f_X6_isKind okc
        rw [if_pos rfl]
        by_cases a : t p < 97
        · simp [a]
        · by_cases b : 101 < t p
          · simp [a, b]
          · simp [a, b]
      refine ⟨fun g => ?_, fun g => ?_⟩
      · rw [f_X1_readCharacter, h.1, h3, if_pos (nI_lt e (by omega)), if_pos (ib_nI (by omega) (by omega)), if_pos rfl, nI_clamp (by omega), c1, ek, ob, if_pos g.2, if_neg (by decide), if_pos rfl, if_pos hk, if_pos rfl, li_1, nI_add]
      · rw [f_X1_readCharacter, h.1, h3, if_pos (nI_lt e (by omega)), if_pos (ib_nI (by omega) (by omega)), if_pos rfl, nI_clamp (by omega), c1, ek, ob, if_neg (fun k => g ⟨e, k⟩), if_pos rfl]
    · have eo : okc c (t p) = decide (t p = c) := by
        unfold okc
        rw [if_neg e37]
      refine ⟨fun g => ?_, fun g => ?_⟩
      · have g2 : t p = c := by simpa [eo] using g.2
        rw [f_X1_readCharacter, h.1, h3, if_pos (nI_lt e (by omega)), if_pos (ib_nI (by omega) (by omega)), if_neg e37, nI_clamp (by omega), c1, if_pos g2, if_neg e37, if_neg e37, wrI_self rfl, li_1, nI_add]
      · have g2 : ¬ t p = c := fun k => g ⟨e, by simpa [eo] using k⟩
        rw [f_X1_readCharacter, h.1, h3, if_pos (nI_lt e (by omega)), if_pos (ib_nI (by omega) (by omega)), if_neg e37, nI_clamp (by omega), c1, if_neg g2]
  · refine ⟨fun g => absurd g.1 e, fun _ => ?_⟩
    rw [f_X1_readCharacter, h.1, h3, if_neg (nI_nlt (by omega) (by omega))]
abbrev wd (u : Nat) : List Int32 := bytS.getD u []
theorem lenS_wd : ∀ u, u < 23 → lenS.getD u 0 = (wd u).length := by
  have h : (List.range 23).all (fun u => decide (lenS.getD u 0 = (wd u).length)) = true := by decide +kernel
  intro u hu
  have := List.all_eq_true.mp h u (List.mem_range.mpr hu)
  simpa using this
theorem len_wd : ∀ u, u < 23 → (wd u).length ≤ 10 := by
  have h : (List.range 23).all (fun u => decide ((wd u).length ≤ 10)) = true := by decide +kernel
  intro u hu
  have := List.all_eq_true.mp h u (List.mem_range.mpr hu)
  simpa using this
/-- how many numbers a form has -/
def n35 (w : List Int32) : Nat := (w.filter (fun c => decide (c = 35))).length
theorem c_form {u : Nat} (hu : u < 23) (k : Mem → Option (Int32 × Mem)) : ∀ (w : List Int32) (i m j p : Nat) (C : Mem), (wd u).drop i = w → i + w.length = (wd u).length → w.length < m → j + n35 w ≤ 3 → CT C t n → C.1 1 = nI p → p ≤ n → C.1 4 = nI j →
    ((fr t n w p).1 = true → ∃ C', f_X1_readForm_L7 u k m (nI i) C = k C' ∧ CT C' t n ∧ C'.1 1 = nI (fr t n w p).2.1 ∧ C'.1 2 = C.1 2 ∧ C'.1 3 = kf t n w p (C.1 3) ∧ (∀ x, x < j → C'.2 1 x = C.2 1 x) ∧ ∀ x, x < (fr t n w p).2.2.length → C'.2 1 (j + x) = (fr t n w p).2.2.getD x 0) ∧
    ((fr t n w p).1 = false → ∃ C', f_X1_readForm_L7 u k m (nI i) C = some (0, C') ∧ CT C' t n ∧ C'.1 1 = nI (fr t n w p).2.1 ∧ C'.1 2 = C.1 2) := by
  intro w
  have hlen := len_wd u hu
  have hl2 := lenS_wd u hu
  have hsl : sLen u = nI (wd u).length := by rw [← hl2]; rfl
  induction w with
  | nil =>
    intro i m j p C h1 h2 h3 h4 h5 h6 h7 h8
    obtain ⟨m', rfl⟩ : ∃ m', m = m' + 1 := ⟨m - 1, by omega⟩
    refine ⟨fun _ => ⟨C, ?_, h5, h6, rfl, rfl, fun _ _ => rfl, fun x hx => absurd hx (by simp [fr])⟩, fun h => by cases h⟩
    simp only [List.length_nil] at h2
    rw [f_X1_readForm_L7, hsl, if_pos (nI_le (by omega) (by omega))]
  | cons c w ih =>
    intro i m j p C h1 h2 h3 h4 h5 h6 h7 h8
    obtain ⟨m', rfl⟩ : ∃ m', m = m' + 1 := ⟨m - 1, by omega⟩
    simp only [List.length_cons] at h2 h3
    have hi : i < (wd u).length := by omega
    have hat : sAt u (nI i) = c := by
      have h9 := congrArg (fun l => l[0]?) h1
      simp only [List.getElem?_drop, Nat.add_zero, List.getElem?_cons_zero] at h9
      unfold sAt
      rw [nI_clamp (by omega), List.getD_eq_getElem?_getD, h9]
      rfl
    have hdr : (wd u).drop (i + 1) = w := by
      have := congrArg List.tail h1
      rw [List.tail_drop] at this
      exact this
    have hn := h5.2.1
    rw [f_X1_readForm_L7, hsl, if_neg (nI_ge hi (by omega)), hl2, if_pos (ib_nI hi (by omega)), hat]
    rw [fr, kf]
    by_cases e : c = 35
    · rw [if_pos e, if_pos e, if_pos e]
      have h9 : n35 (c :: w) = n35 w + 1 := by
        unfold n35
        simp [e]
      obtain ⟨q1, q2⟩ := c_number h5 h6 h7 h8 (by omega)
      by_cases d : nd t n 4 p = 0
      · rw [if_pos d, q1 d, ob]
        refine ⟨fun h => (by cases h), fun _ => ⟨C, ?_, h5, h6, rfl⟩⟩
        dsimp only
        rw [if_pos rfl]
      · rw [if_neg d, q2 d, ob]
        dsimp only
        rw [if_neg (by decide), li_1, nI_add]
        have hp := (nd_le t n 4 p).2 h7
        obtain ⟨r1, r2⟩ := ih (i + 1) m' (j + 1) (p + nd t n 4 p) (wrI (wrA (wrI C 1 (nI (p + nd t n 4 p))) 1 (nI j) (dv t (nd t n 4 p) p 0)) 4 (nI (j + 1))) hdr (by omega) (by omega) (by omega) (h5.move rfl (fun x => by rw [wrI_2, wr_at _ _ (by omega), if_neg (by omega), wrI_2])) rfl hp (by rw [wrI_1, if_pos rfl])
        refine ⟨fun h => ?_, fun h => ?_⟩
        · obtain ⟨C', s1, s2, s3, s4, s5, s6, s7⟩ := r1 h
          refine ⟨C', s1, s2, s3, s4, s5, fun x hx => ?_, fun x hx => ?_⟩
          · rw [s6 x (by omega), wrI_2, wr_at _ _ (by omega), if_neg (by omega), wrI_2]
          · cases x with
            | zero =>
              rw [Nat.add_zero, s6 j (by omega), wrI_2, wr_at _ _ (by omega), if_pos ⟨rfl, rfl⟩]
              rfl
            | succ x =>
              have := s7 x (by simpa using hx)
              rw [show j + (x + 1) = j + 1 + x by omega, this]
              rfl
        · obtain ⟨C', s1, s2, s3, s4⟩ := r2 h
          exact ⟨C', s1, s2, s3, s4⟩
    · rw [if_neg e, if_neg e, if_neg e]
      have h9 : n35 (c :: w) = n35 w := by
        unfold n35
        simp [e]
      obtain ⟨q1, q2⟩ := c_char h5 h6 h7 c
      by_cases d : p < n ∧ okc c (t p) = true
      · rw [if_pos d, q1 d, ob]
        dsimp only
        rw [if_neg (by decide), li_1, nI_add]
        obtain ⟨r1, r2⟩ := ih (i + 1) m' j (p + 1) (wrI (wrI C 3 (if c = 37 then t p else C.1 3)) 1 (nI (p + 1))) hdr (by omega) (by omega) (by omega) (h5.move rfl (fun _ => rfl)) (by rw [wrI_1, if_pos rfl]) (by omega) h8
        refine ⟨fun h => ?_, fun h => ?_⟩
        · obtain ⟨C', s1, s2, s3, s4, s5, s6, s7⟩ := r1 h
          refine ⟨C', s1, s2, s3, s4, ?_, s6, s7⟩
          rw [s5]
          rfl
        · obtain ⟨C', s1, s2, s3, s4⟩ := r2 h
          exact ⟨C', s1, s2, s3, s4⟩
      · rw [if_neg d, q2 d, ob]
        refine ⟨fun h => (by cases h), fun _ => ⟨C, ?_, h5, h6, rfl⟩⟩
        dsimp only
        rw [if_pos rfl]
end TEXT
