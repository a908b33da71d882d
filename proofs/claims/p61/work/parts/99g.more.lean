/-! ranks by value, reach and damp, most releases, how duties grow -/
theorem cnt_mono {f g : Nat → Prop} : ∀ n, (∀ x, x < n → f x → g x) → cnt f n ≤ cnt g n := by
  intro n
  induction n with
  | zero => intro _; exact Nat.le_refl _
  | succ n ih =>
    intro h
    have h1 := ih (fun x hx => h x (by omega))
    by_cases hf : f n
    · rw [cnt_t hf, cnt_t (h n (by omega) hf)]
      omega
    · rw [cnt_f hf]
      by_cases hg : g n
      · rw [cnt_t hg]
        omega
      · rw [cnt_f hg]
        omega
theorem cnt_0 {f : Nat → Prop} : ∀ n, (∀ x, x < n → ¬ f x) → cnt f n = 0 := by
  intro n
  induction n with
  | zero => intro _; rfl
  | succ n ih =>
    intro h
    rw [cnt_f (h n (by omega)), ih (fun x hx => h x (by omega))]
theorem cnt_pos {f : Nat → Prop} {b : Nat} (h : f b) : ∀ n, b < n → 0 < cnt f n := by
  intro n
  induction n with
  | zero => intro hb; exact absurd hb (Nat.not_lt_zero b)
  | succ n ih =>
    intro hb
    by_cases e : b = n
    · subst e
      rw [cnt_t h]
      omega
    · have h1 := ih (by omega)
      by_cases hf : f n
      · rw [cnt_t hf]
        omega
      · rw [cnt_f hf]
        omega
theorem cnt_ssub {f g : Nat → Prop} {b n : Nat} (h : ∀ x, x < n → f x → g x) (hb : b < n) (hf : ¬ f b) (hg : g b) : cnt f n < cnt g n := by
  have h1 := cnt_add (f := f) (g := fun x => f x ∨ x = b) hf (fun x => Iff.rfl) n
  have h2 := cnt_mono (f := fun x => f x ∨ x = b) (g := g) n (fun x hx z => z.elim (h x hx) (fun e => by rw [e]; exact hg))
  rw [if_pos hb] at h1
  omega
/-- o stands ahead of s by value -/
def Ah (v : Nat → Int32) (o s : Nat) : Prop := v s < v o ∨ (v o = v s ∧ o < s)
noncomputable def rk (v : Nat → Int32) (c s : Nat) : Nat := cnt (fun o => Ah v o s) c
section RANK
variable {v : Nat → Int32} {c : Nat}
theorem Ah.irr (a : Nat) : ¬ Ah v a a := by
  unfold Ah
  simp only [Int32.lt_iff_toInt_lt, ← Int32.toInt_inj]
  omega
theorem Ah.tr {a b d : Nat} (h : Ah v a b) (g : Ah v b d) : Ah v a d := by
  unfold Ah at *
  simp only [Int32.lt_iff_toInt_lt, ← Int32.toInt_inj] at *
  omega
theorem Ah.tot {a b : Nat} (h : a ≠ b) : Ah v a b ∨ Ah v b a := by
  unfold Ah
  simp only [Int32.lt_iff_toInt_lt, ← Int32.toInt_inj]
  omega
theorem ahd_rk (s : Nat) : ahd v c s = nI (rk v c s) := by
  unfold ahd rk
  refine sI_cnt c (fun o _ => ⟨fun h => ?_, fun h => ?_⟩)
  · rcases h with h | ⟨e, h⟩
    · rw [if_pos h]
      rfl
    · rw [if_neg (by rw [e]; exact Int32.lt_irrefl), if_pos e, if_neg (by omega)]
      rfl
  · rw [if_neg (fun z => h (Or.inl z))]
    by_cases e : v o = v s
    · rw [if_pos e, if_pos (Nat.not_lt.mp (fun z => h (Or.inr ⟨e, z⟩)))]
      rfl
    · rw [if_neg e]
      rfl
theorem rk_lt {s : Nat} (hs : s < c) : rk v c s < c := cnt_lt (f := fun o => Ah v o s) (b := s) (Ah.irr s) c hs
theorem rk_mono {o s : Nat} (h : Ah v o s) (ho : o < c) : rk v c o < rk v c s := cnt_ssub (b := o) (fun x _ z => Ah.tr z h) ho (Ah.irr o) h
theorem rk_inj {s s' : Nat} (hs : s < c) (hs' : s' < c) (e : rk v c s = rk v c s') : s = s' := by
  refine Classical.byContradiction fun hne => ?_
  rcases Ah.tot (v := v) hne with h | h
  · have := rk_mono h hs
    omega
  · have := rk_mono h hs'
    omega
theorem rk_ahead {s s' : Nat} (hs : s < c) (hs' : s' < c) (e : rk v c s < rk v c s') : Ah v s s' := by
  have hne : s ≠ s' := fun z => by
    rw [z] at e
    exact Nat.lt_irrefl _ e
  rcases Ah.tot (v := v) hne with h | h
  · exact h
  · have := rk_mono h hs'
    omega
theorem rk_sur {r : Nat} (hr : r < c) : ∃ s, s < c ∧ rk v c s = r := by
  refine Classical.byContradiction fun hno => ?_
  have hn : ∀ s, s < c → rk v c s ≠ r := fun s hs e => hno ⟨s, hs, e⟩
  have h9 := pig (c - 1) c (fun s => if r < rk v c s then rk v c s - 1 else rk v c s) (fun i hi => by
    have h1 := hn i hi
    have h2 := rk_lt (v := v) hi
    show (if r < rk v c i then rk v c i - 1 else rk v c i) < c - 1
    split <;> omega) (fun i j hi hj e => by
    have h1 := hn i hi
    have h2 := hn j hj
    refine rk_inj (v := v) hi hj ?_
    have e : (if r < rk v c i then rk v c i - 1 else rk v c i) = (if r < rk v c j then rk v c j - 1 else rk v c j) := e
    split at e <;> split at e <;> omega)
  omega
end RANK
noncomputable abbrev rch (S : Mem) (c : Nat) : Nat := cnt (Rk (opn S c) (dmp S c) 24) 24
noncomputable abbrev dmN (S : Mem) (c : Nat) : Nat := cnt (dmp S c) 24
abbrev vI (S : Mem) : Nat → Int32 := fun p => S.2 2 p * S.2 3 p
def sN (g : Nat → Nat) : Nat → Nat
  | 0 => 0
  | n + 1 => sN g n + g n
theorem sI_sN (g : Nat → Nat) : ∀ n, sI (fun p => nI (g p)) n = nI (sN g n) := by
  intro n
  induction n with
  | zero => rfl
  | succ n ih =>
    show sI (fun p => nI (g p)) n + nI (g n) = _
    rw [ih, nI_add]
    rfl
theorem sN_le {g : Nat → Nat} {B : Nat} : ∀ n, (∀ p, p < n → g p ≤ B) → sN g n ≤ n * B := by
  intro n
  induction n with
  | zero => intro _; exact Nat.zero_le _
  | succ n ih =>
    intro h
    have h1 := ih (fun p hp => h p (by omega))
    have h2 := h n (by omega)
    show sN g n + g n ≤ _
    rw [Nat.succ_mul]
    omega
theorem sN_mono {g : Nat → Nat} {a b : Nat} (h : a ≤ b) : sN g a ≤ sN g b := by
  induction b with
  | zero => rw [show a = 0 by omega]; exact Nat.le_refl _
  | succ b ih =>
    by_cases e : a = b + 1
    · rw [e]
      exact Nat.le_refl _
    · have := ih (by omega)
      show sN g a ≤ sN g b + g b
      omega
theorem sN_list (g : Nat → Nat) : ∀ n, sN g n = ((List.range n).map g).sum := by
  intro n
  induction n with
  | zero => rfl
  | succ n ih =>
    show sN g n + g n = _
    rw [List.range_succ, List.map_append, List.sum_append, ih]
    simp
section GD2
variable {N : Nat} {S : Mem} {c t q : Nat}
theorem Gd.rank (h : Gd N S c t q) {r : Nat} (hr : r < c) : ∃ s, s < c ∧ rk (vI S) c s = r ∧ f_X3_slotByValue S (nI r) = some (nI s) := by
  have hc := h.c16
  have cc := h.c1
  obtain ⟨s, hs, es⟩ := rk_sur (v := vI S) hr
  refine ⟨s, hs, es, ?_⟩
  have hC : f_X3_slotByValue S (nI r) = some (oi (fnd (fun s => decide (ahd (fun p => S.2 2 p * S.2 3 p) c s = nI r)) c 0)) := by
    rw [f_X3_slotByValue, li_0]
    refine (lpS (fun n i => f_X3_slotByValue_L2 (nI r) S (some (-1)) n i) (some (-1)) (fun s => decide (ahd (fun p => S.2 2 p * S.2 3 p) c s = nI r)) (fun j => some (nI j)) c ?_ ?_ c 40 0 (by omega) (by omega)).trans (fk_so _ _ _)
    · intro n
      simp (disch := omega) only [f_X3_slotByValue_L2, cc, li_0, li_1, li_2, li_3, li_4, li_5, li_6, li_7, li_8, li_9, li_10, li_11, li_12, li_16, li_20, li_23, li_24, li_30, li_32, li_35, li_37, li_40, li_42, li_46, li_48, li_53, li_57, li_58, li_59, li_60, li_63, li_64, li_65, li_97, li_99, li_100, li_101, li_120, li_126, li_132, li_148, li_300, li_999, li_1036, li_1184, li_9999, nn1, nI_leI, nI_ltI, nI_eq, nI_add, pk_mul, pk_sub, nI_clamp, ib_nI, if_pos, if_neg, if_true, if_false, eq_self, ob]
    · intro n i hi
      have h9 := c_ahead cc hc hi
      simp (disch := omega) only [f_X3_slotByValue_L2, cc, h9, decide_eq_true_eq, nI_leI, nI_ltI, nI_eq, nI_add, pk_mul, pk_sub, nI_clamp, ib_nI, if_pos, if_neg, if_true, if_false, eq_self, ob, li_1]
  rw [hC, fnd_is (d := c) (i := 0) (j := s) (Nat.zero_le s) (by omega) (by
    rw [show ahd (fun p => S.2 2 p * S.2 3 p) c s = nI (rk (vI S) c s) from ahd_rk s, es]
    simp) (fun l _ hl => by
    have h1 := rk_lt (v := vI S) (show l < c by omega)
    have hne : ¬ ahd (fun p => S.2 2 p * S.2 3 p) c l = nI r := fun z => by
      rw [show ahd (fun p => S.2 2 p * S.2 3 p) c l = nI (rk (vI S) c l) from ahd_rk l, nI_eq (by omega) (by omega)] at z
      have := rk_inj (v := vI S) (show l < c by omega) hs (z.trans es.symm)
      omega
    simpa using hne)]
  rfl
theorem Gd.reach (h : Gd N S c t q) : f_X3_reachByStretches S = some (nI (rch S c)) := c_stretch h.c1 h.c16 h.L
theorem Gd.reachQ (h : Gd N S c t q) (B : Mem) : ∃ B', f_X3_reachByQueue S B = some (nI (rch S c), B') := c_queueReach h.c1 h.c16 h.L B
theorem Gd.dampN (h : Gd N S c t q) : sI (fun p => S.2 6 p) c = nI (dmN S c) := by
  rw [← byBays (S := S) (fun p => S.2 6 p) c (fun p hp => (h.L.1 p hp).2.2.2.1) h.L.2]
  refine sI_cnt 24 (fun b hb => ?_)
  rcases at_bay hb h.L with ⟨e, -, hd⟩ | ⟨p, hp, e, -, hd⟩
  · rw [show byc S c (nI b) = none from e, fk_n]
    exact ⟨fun z => absurd z hd, fun _ => rfl⟩
  · rw [show byc S c (nI b) = some p from e, fk_s]
    refine ⟨fun z => hd.mp z, fun z => ?_⟩
    rcases h.f6 hp with g | g
    · exact g
    · exact absurd (hd.mpr g) z
theorem Gd.dmRch (h : Gd N S c t q) : dmN S c ≤ rch S c := cnt_mono 24 (fun b hb hd => (Rk.zero (dmp_opn h.L) hb hd).mono (by omega))
theorem rch_none (h0 : dmN S c = 0) : rch S c = 0 := cnt_0 24 (fun b _ ⟨d, hd, hD, _⟩ => absurd (cnt_pos (f := dmp S c) hD 24 hd) (by have h0 : cnt (dmp S c) 24 = 0 := h0; omega))
theorem rch_le : rch S c ≤ 24 := cnt_le _ 24
theorem dmN_24 : dmN S c ≤ 24 := cnt_le _ 24
/-- the cheapest first -/
theorem most_c {B : Mem} {sl : Nat → Nat} {co : Nat} (c1 : S.1 0 = nI c) (hc : c ≤ 16) (hco : co ≤ 9999) (hB : ∀ k, k < c → B.2 0 k = nI (sl k) ∧ sl k ≤ 9801) :
    ∀ (e r n : Nat), r + e = c → e < n → sN sl r ≤ co → ∃ z, f_X4_countReleases_L12 S B (some (S.1 0, B)) n (nI (co - sN sl r)) (nI r) = some (nI z, B) ∧ r ≤ z ∧ z ≤ c ∧ (z = c ↔ sN sl c ≤ co) ∧ (r < c → sN sl (r + 1) ≤ co → r < z) := by
  intro e
  induction e with
  | zero =>
    intro r n h1 h2 h3
    obtain ⟨n', rfl⟩ : ∃ n', n = n' + 1 := ⟨n - 1, by omega⟩
    have hr : r = c := by omega
    subst hr
    refine ⟨r, ?_, Nat.le_refl r, Nat.le_refl r, ⟨fun _ => h3, fun _ => rfl⟩, fun h => absurd h (Nat.lt_irrefl r)⟩
    rw [f_X4_countReleases_L12, c1, if_pos (nI_le (Nat.le_refl r) (by omega))]
  | succ e ih =>
    intro r n h1 h2 h3
    obtain ⟨n', rfl⟩ : ∃ n', n = n' + 1 := ⟨n - 1, by omega⟩
    obtain ⟨b1, b2⟩ := hB r (by omega)
    have hC : f_X4_countReleases_L12 S B (some (S.1 0, B)) (n' + 1) (nI (co - sN sl r)) (nI r) = if 0 ≤ nI (co - sN sl r) - nI (sl r) then f_X4_countReleases_L12 S B (some (S.1 0, B)) n' (nI (co - sN sl r) - nI (sl r)) (nI (r + 1)) else some (nI r, B) := by
      rw [f_X4_countReleases_L12, c1, if_neg (nI_ge (by omega) (by omega)), li_16, if_neg (nI_ge (by omega) (by omega)), if_pos (ib_nI (by omega) (by omega)), nI_clamp (by omega), b1, li_1, nI_add]
    have hs : sN sl (r + 1) = sN sl r + sl r := rfl
    have hm := sN_mono (g := sl) (show r + 1 ≤ c by omega)
    by_cases g : sl r ≤ co - sN sl r
    · have e1 : nI (co - sN sl r) - nI (sl r) = nI (co - sN sl (r + 1)) := by
        rw [pk_sub g, hs]
        congr 1
        omega
      obtain ⟨z, z1, z2, z3, z4, -⟩ := ih (r + 1) n' (by omega) (by omega) (by omega)
      refine ⟨z, ?_, by omega, z3, z4, fun _ _ => by omega⟩
      rw [hC, e1, if_pos (nI_pos' (by omega)), z1]
    · have e1 : ¬ 0 ≤ nI (co - sN sl r) - nI (sl r) := by
        rw [Int32.le_iff_toInt_le, pk_sub_toInt (by omega) (by omega)]
        show ¬ (0 : Int) ≤ _
        omega
      refine ⟨r, by rw [hC, if_neg e1], Nat.le_refl r, by omega, ⟨fun z => by omega, fun z => by omega⟩, fun _ z => by omega⟩
theorem Gd.most (h : Gd N S c t q) (B : Mem) : ∃ r B', f_X4_countReleases S B = some (nI r, B') ∧ r ≤ c ∧ (r = c ↔ sN (owe S t) c ≤ nv (S.1 3)) ∧ ∀ p, p < c → owe S t p ≤ nv (S.1 3) → 0 < r := by
  obtain ⟨B', sl, e1, e2, e3, e4⟩ := c_sort h.c1 h.c16 h.T h.L B
  obtain ⟨co, -, hco, eco⟩ := h.bd
  have ev : nv (S.1 3) = co := by
    rw [eco]
    exact nI_clamp (by omega)
  obtain ⟨z, z1, z2, z3, z4, z5⟩ := most_c (S := S) (B := B') (sl := sl) (co := co) h.c1 h.c16 hco e2 c 0 40 (by omega) (by have := h.c16; omega) (Nat.zero_le co)
  refine ⟨z, B', ?_, z3, ?_, fun p hp ho => ?_⟩
  · rw [f_X4_countReleases, e1, ob, eco]
    exact z1
  · rw [z4, ev, sN_list sl, sN_list (owe S t), e4.sum_nat]
  · have hm : owe S t p ∈ (List.range c).map sl := e4.mem_iff.mpr (List.mem_map.mpr ⟨p, List.mem_range.mpr hp, rfl⟩)
    obtain ⟨k, hk, ek⟩ := List.mem_map.mp hm
    have h0 := e3 0 k (Nat.zero_le k) (List.mem_range.mp hk)
    have hs : sN sl (0 + 1) = 0 + sl 0 := rfl
    exact z5 (by omega) (by omega)
theorem Gd.totN (h : Gd N S c t q) : sI (fun p => nI (owe S t p)) c = nI (sN (owe S t) c) ∧ sN (owe S t) c ≤ 156816 := by
  refine ⟨sI_sN _ c, ?_⟩
  have h1 := sN_le (g := owe S t) (B := 9801) c (fun p hp => h.oweLe hp)
  have h2 := Nat.mul_le_mul_right 9801 h.c16
  omega
/-- duties grow with the value, by a coin for a coin at most -/
theorem dN_step (T : TrfOK S t) (v : Nat) : dN (thr S) (rat S) t v t ≤ dN (thr S) (rat S) t (v + 1) t ∧ dN (thr S) (rat S) t (v + 1) t ≤ dN (thr S) (rat S) t v t + 100 := by
  obtain ⟨s, -, a, b, d⟩ := below (thr S) (v + 1) t 0 (by omega) (fun k h => absurd h (by omega))
  rw [dN_coin a b d T.2.2.2 t (Nat.le_refl t)]
  by_cases g : 0 < s ∧ s - 1 < t
  · rw [if_pos g]
    have := (T.2.2.1 (s - 1) g.2).2.2.2
    omega
  · rw [if_neg g]
    omega
theorem dN_grow (T : TrfOK S t) (v : Nat) : ∀ k, dN (thr S) (rat S) t v t ≤ dN (thr S) (rat S) t (v + k) t ∧ dN (thr S) (rat S) t (v + k) t ≤ dN (thr S) (rat S) t v t + 100 * k := by
  intro k
  induction k with
  | zero => exact ⟨Nat.le_refl _, Nat.le_refl _⟩
  | succ k ih =>
    have := dN_step T (v + k)
    rw [show v + (k + 1) = v + k + 1 by omega]
    omega
theorem dty_grow (T : TrfOK S t) {v v' : Nat} (h : v ≤ v') : dty S t v ≤ dty S t v' ∧ dty S t v' ≤ dty S t v + (v' - v) := by
  have := dN_grow T v (v' - v)
  rw [show v + (v' - v) = v' by omega] at this
  unfold dty
  omega
theorem dty_le (T : TrfOK S t) (v : Nat) : dty S t v ≤ v := by
  have := dN_le T.2.2.2 (fun k h => (T.2.2.1 k h).2.2.2) v
  unfold dty
  omega
theorem dty_0 : dty S t 0 = 0 := by
  unfold dty
  rw [dN_0]
end GD2
