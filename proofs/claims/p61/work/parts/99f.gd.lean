/-! THE PROPERTY WITHOUT A MACHINE: good states; what the asks say of them -/
/-- the ids stand in ascending order, below the next one -/
def Asc (S : Mem) (c : Nat) : Prop := (∀ p p', p < p' → p' < c → nv (S.2 0 p) < nv (S.2 0 p')) ∧ ∀ p, p < c → nv (S.2 0 p) < nv (S.1 1)
def Gd (N : Nat) (S : Mem) (c t q : Nat) : Prop := (S.1 0 = nI c ∧ c ≤ 16) ∧ (S.1 2 = nI t ∧ t ≤ 6) ∧ (S.1 7 = nI q ∧ q ≤ 16) ∧ Inv S c t q ∧ IdOK S c N ∧ Asc S c
/-- a state as a row of the companion's, for the lemmas over both -/
def rowF (S : Mem) : Nat → Int32 := fun y => if y = 0 then S.1 1 else if y = 1 then S.1 0 else if y = 2 then S.1 2 else if y = 3 then S.1 5 else if y = 4 then S.1 3 else if y = 5 then S.1 4 else if y = 6 then S.1 6 else if y = 7 then S.1 7 else if y < 120 then S.2 ((y - 8) % 7) ((y - 8) / 7) else if y < 132 then S.2 (7 + (y - 120) % 2) ((y - 120) / 2) else S.2 9 (y - 132)
def mF (S : Mem) : Mem := (fun _ => 0, fun j => if j = 0 then rowF S else fun _ => 0)
theorem mF_0 (S : Mem) : (mF S).2 0 = rowF S := rfl
theorem rowF_lot (S : Mem) {p j : Nat} (hp : p < 16) (hj : j < 7) : rowF S (8 + 7 * p + j) = S.2 j p := by
  unfold rowF
  rw [if_neg (by omega), if_neg (by omega), if_neg (by omega), if_neg (by omega), if_neg (by omega), if_neg (by omega), if_neg (by omega), if_neg (by omega), if_pos (by omega), show (8 + 7 * p + j - 8) % 7 = j by omega, show (8 + 7 * p + j - 8) / 7 = p by omega]
theorem rowF_th (S : Mem) {k : Nat} (hk : k < 6) : rowF S (120 + 2 * k) = S.2 7 k := by
  unfold rowF
  rw [if_neg (by omega), if_neg (by omega), if_neg (by omega), if_neg (by omega), if_neg (by omega), if_neg (by omega), if_neg (by omega), if_neg (by omega), if_neg (by omega), if_pos (by omega), show 7 + (120 + 2 * k - 120) % 2 = 7 by omega, show (120 + 2 * k - 120) / 2 = k by omega]
theorem rowF_ra (S : Mem) {k : Nat} (hk : k < 6) : rowF S (120 + 2 * k + 1) = S.2 8 k := by
  unfold rowF
  rw [if_neg (by omega), if_neg (by omega), if_neg (by omega), if_neg (by omega), if_neg (by omega), if_neg (by omega), if_neg (by omega), if_neg (by omega), if_neg (by omega), if_pos (by omega), show 7 + (120 + 2 * k + 1 - 120) % 2 = 8 by omega, show (120 + 2 * k + 1 - 120) / 2 = k by omega]
theorem rowF_qu (S : Mem) (k : Nat) : rowF S (132 + k) = S.2 9 k := by
  unfold rowF
  rw [if_neg (by omega), if_neg (by omega), if_neg (by omega), if_neg (by omega), if_neg (by omega), if_neg (by omega), if_neg (by omega), if_neg (by omega), if_neg (by omega), if_neg (by omega), show 132 + k - 132 = k by omega]
theorem rowF_rel {S : Mem} {c t q : Nat} (h0 : S.1 0 = nI c) (hc : c ≤ 16) (h2 : S.1 2 = nI t) (ht : t ≤ 6) (h7 : S.1 7 = nI q) (hq : q ≤ 16) : Rel S (rowF S) c t q :=
  ⟨⟨rfl, h0, h0, hc⟩, ⟨h2, h2, ht⟩, ⟨h7, h7, hq⟩, ⟨rfl, rfl, rfl, rfl⟩, fun p hp j hj => rowF_lot S (by omega) hj, fun k hk => ⟨rowF_th S (by omega), rowF_ra S (by omega)⟩, fun k _ => rowF_qu S k⟩
theorem asc_ne {S : Mem} {c p p' : Nat} (A : Asc S c) (hp : p < c) (hp' : p' < c) (hne : p ≠ p') : S.2 0 p ≠ S.2 0 p' := by
  intro e
  rcases Nat.lt_or_gt_of_ne hne with h | h
  · have := A.1 p p' h hp'
    rw [e] at this
    exact Nat.lt_irrefl _ this
  · have := A.1 p' p h hp
    rw [e] at this
    exact Nat.lt_irrefl _ this
section GD
variable {N : Nat} {S : Mem} {c t q : Nat}
theorem Gd.c1 (h : Gd N S c t q) : S.1 0 = nI c := h.1.1
theorem Gd.c16 (h : Gd N S c t q) : c ≤ 16 := h.1.2
theorem Gd.t1 (h : Gd N S c t q) : S.1 2 = nI t := h.2.1.1
theorem Gd.t6 (h : Gd N S c t q) : t ≤ 6 := h.2.1.2
theorem Gd.q1 (h : Gd N S c t q) : S.1 7 = nI q := h.2.2.1.1
theorem Gd.q16 (h : Gd N S c t q) : q ≤ 16 := h.2.2.1.2
theorem Gd.I (h : Gd N S c t q) : Inv S c t q := h.2.2.2.1
theorem Gd.L (h : Gd N S c t q) : LotsOK S c := h.I.1
theorem Gd.T (h : Gd N S c t q) : TrfOK S t := h.I.2.1
theorem Gd.Q (h : Gd N S c t q) : QueOK S c q := h.I.2.2.1
theorem Gd.bd (h : Gd N S c t q) : inR (S.1 3) 0 9999 := h.I.2.2.2
theorem Gd.D (h : Gd N S c t q) : IdOK S c N := h.2.2.2.2.1
theorem Gd.A (h : Gd N S c t q) : Asc S c := h.2.2.2.2.2
theorem Gd.rel (h : Gd N S c t q) : Rel S ((mF S).2 0) c t q := by
  rw [mF_0]
  exact rowF_rel h.c1 h.c16 h.t1 h.t6 h.q1 h.q16
theorem Gd.st (h : Gd N S c t q) : St N S ((mF S).2 0) := ⟨c, t, q, h.rel, h.I, h.D⟩
theorem Gd.mono {N' : Nat} (h : Gd N S c t q) (hN : N ≤ N') : Gd N' S c t q := ⟨h.1, h.2.1, h.2.2.1, h.I, h.D.mono hN, h.A⟩
theorem Gd.of {f : Nat → Int32} (s : St N S f) (A : ∀ c, c ≤ 16 → S.1 0 = nI c → Asc S c) : ∃ c t q, Gd N S c t q := by
  obtain ⟨c, t, q, R, I, D⟩ := s
  exact ⟨c, t, q, ⟨R.c1, R.c⟩, ⟨R.t1, R.t⟩, ⟨R.q1, R.q⟩, I, D, A c R.c R.c1⟩
theorem Gd.uniq {N' c' t' q' : Nat} (h : Gd N S c t q) (g : Gd N' S c' t' q') : c' = c ∧ t' = t ∧ q' = q := by
  have h1 := h.c16
  have h2 := h.t6
  have h3 := h.q16
  have g1 := g.c16
  have g2 := g.t6
  have g3 := g.q16
  exact ⟨(nI_eq (by omega) (by omega)).mp (g.c1.symm.trans h.c1), (nI_eq (by omega) (by omega)).mp (g.t1.symm.trans h.t1), (nI_eq (by omega) (by omega)).mp (g.q1.symm.trans h.q1)⟩
theorem Gd.copies (h : Gd N S c t q) (P0 : Mem) : ∃ P, f_X4_copyFrom P0 S = some P := (c_copy P0 h.rel h.I).imp (fun _ z => z.1)
theorem Asc.same {T : Mem} (h : Same S T c t q) (A : Asc T c) : Asc S c := by
  refine ⟨fun p p' h1 h2 => ?_, fun p hp => ?_⟩
  · rw [h.2.1 0 p (by omega) (by omega), h.2.1 0 p' h2 (by omega)]
    exact A.1 p p' h1 h2
  · rw [h.2.1 0 p hp (by omega), h.1 1 (by omega)]
    exact A.2 p hp
theorem Gd.same {T : Mem} (h : Same S T c t q) (g : Gd N T c t q) : Gd N S c t q :=
  ⟨⟨(h.1 0 (by omega)).trans g.c1, g.c16⟩, ⟨(h.1 2 (by omega)).trans g.t1, g.t6⟩, ⟨(h.1 7 (by omega)).trans g.q1, g.q16⟩, g.I.same h, IdOK.same (h.1 1 (by omega)) (fun p hp => h.2.1 0 p hp (by omega)) g.D, g.A.same h⟩
/-- a copy -/
theorem Gd.copy (h : Gd N S c t q) {P0 P : Mem} (e : f_X4_copyFrom P0 S = some P) : Same P S c t q ∧ Gd N P c t q := by
  obtain ⟨P', h1, h2⟩ := c_copy P0 h.rel h.I
  cases Option.some.inj (h1.symm.trans e)
  exact ⟨h2, h.same h2⟩
theorem Gd.id (h : Gd N S c t q) {p : Nat} (hp : p < c) : inR (S.2 0 p) 0 N := h.D.2 p hp
theorem Gd.slot (h : Gd N S c t q) {p : Nat} (hp : p < c) : f_X3_slotWith S (S.2 0 p) = some (nI p) := by
  rw [c_slotWith h.c1 h.c16, fnd_is (d := c) (i := 0) (j := p) (Nat.zero_le p) (by omega) (by simp) (fun l _ hl => by simpa using asc_ne h.A (p := l) (p' := p) (by omega) hp (by omega))]
  rfl
theorem Gd.slotOr (h : Gd N S c t q) (x : Int32) : (f_X3_slotWith S x = some (-1) ∧ ∀ p, p < c → S.2 0 p ≠ x) ∨ ∃ p, p < c ∧ S.2 0 p = x ∧ f_X3_slotWith S x = some (nI p) := by
  have e := c_slotWith h.c1 h.c16 x
  rcases fnd_at (g := S.2 0) (x := x) (c := c) with ⟨k1, k2⟩ | ⟨p, k1, k2, k3, -⟩
  · rw [k1] at e
    exact Or.inl ⟨e, k2⟩
  · rw [k1] at e
    exact Or.inr ⟨p, k2, k3, e⟩
theorem Gd.at (h : Gd N S c t q) {p : Nat} (hp : p < c) : f_X3_slotAt S (S.2 4 p) = some (nI p) := by
  rw [c_slotAt h.c1 h.c16, fnd_is (d := c) (i := 0) (j := p) (Nat.zero_le p) (by omega) (by simp) (fun l _ hl => by
    have hne : ¬ S.2 4 l = S.2 4 p := fun e => absurd (h.L.2 l p (by omega) hp e) (by omega)
    simpa using hne)]
  rfl
theorem Gd.atOr (h : Gd N S c t q) (x : Int32) : (f_X3_slotAt S x = some (-1) ∧ ∀ p, p < c → S.2 4 p ≠ x) ∨ ∃ p, p < c ∧ S.2 4 p = x ∧ f_X3_slotAt S x = some (nI p) := by
  have e := c_slotAt h.c1 h.c16 x
  rcases fnd_at (g := S.2 4) (x := x) (c := c) with ⟨k1, k2⟩ | ⟨p, k1, k2, k3, -⟩
  · rw [k1] at e
    exact Or.inl ⟨e, k2⟩
  · rw [k1] at e
    exact Or.inr ⟨p, k2, k3, e⟩
theorem Gd.at24 (h : Gd N S c t q) : ∀ y, y < 24 → f_X3_slotAt S (nI y) = some (-1) ∨ ∃ p, p < 16 ∧ f_X3_slotAt S (nI y) = some (nI p) := by
  intro y _
  have hc := h.c16
  rcases h.atOr (nI y) with ⟨e, -⟩ | ⟨p, hp, -, e⟩
  · exact Or.inl e
  · exact Or.inr ⟨p, by omega, e⟩
theorem Gd.bay (h : Gd N S c t q) {p : Nat} (hp : p < c) : ∃ b, b < 24 ∧ S.2 4 p = nI b := by
  obtain ⟨b, -, hb, e⟩ := (h.L.1 p hp).2.2.2.1
  exact ⟨b, by omega, e⟩
theorem Gd.qty (h : Gd N S c t q) {p : Nat} (hp : p < c) : ∃ k, 1 ≤ k ∧ k ≤ 99 ∧ S.2 2 p = nI k := (h.L.1 p hp).2.1
theorem Gd.f5 (h : Gd N S c t q) {p : Nat} (hp : p < c) : S.2 5 p = 0 ∨ S.2 5 p = 1 := (h.L.1 p hp).2.2.2.2.1
theorem Gd.f6 (h : Gd N S c t q) {p : Nat} (hp : p < c) : S.2 6 p = 0 ∨ S.2 6 p = 1 := (h.L.1 p hp).2.2.2.2.2.1
theorem Gd.f56 (h : Gd N S c t q) {p : Nat} (hp : p < c) : S.2 5 p = 1 → S.2 6 p = 0 := (h.L.1 p hp).2.2.2.2.2.2
theorem Gd.val (h : Gd N S c t q) {p : Nat} (hp : p < c) : S.2 2 p * S.2 3 p = nI (vlu S p) ∧ 1 ≤ vlu S p ∧ vlu S p ≤ 9801 := (h.L.1 p hp).val
theorem Gd.dutyOf (h : Gd N S c t q) {p : Nat} (hp : p < c) : f_X4_dutyOf S (nI p) = some (nI (owe S t p)) := c_dutyOf h.T h.L h.c16 hp
theorem Gd.oweLe (h : Gd N S c t q) {p : Nat} (hp : p < c) : owe S t p ≤ 9801 := owe_le h.T h.L hp
theorem Gd.parts (h : Gd N S c t q) {v : Nat} (hv : v ≤ 9999) : f_X5_dutyByParts S (nI v) = some (nI (dty S t v)) ∧ f_X5_dutyByCoins S (nI v) = some (nI (dty S t v)) := ⟨c_parts h.T hv, c_coins h.T hv⟩
theorem Gd.damps (h : Gd N S c t q) : f_X3_countDamp S = some (sI (fun p => S.2 6 p) c) := (r_damp h.rel h.L).1
theorem Gd.seals (h : Gd N S c t q) : f_X3_countSealed S = some (sI (fun p => S.2 5 p) c) := (r_sealed h.rel h.L).1
theorem Gd.values (h : Gd N S c t q) : f_X3_sumOfValues S = some (sI (fun p => S.2 2 p * S.2 3 p) c) := c_sumOfValues h.c1 h.c16
theorem Gd.ofKind (h : Gd N S c t q) (x : Int32) : f_X3_quantityOf S x = some (sI (fun p => if S.2 1 p = x then S.2 2 p else 0) c) := c_quantityOf h.c1 h.c16 x
theorem Gd.total (h : Gd N S c t q) : f_X4_dutyInOrderOfIds S = some (sI (fun p => nI (owe S t p)) c) ∧ f_X4_dutyBayByBay S = some (sI (fun p => nI (owe S t p)) c) ∧ f_X4_dutiesAgree S = some 1 := by
  obtain ⟨r, h1, h2, -, -, h5⟩ := q_total h.st
  have hc := h.c16
  have e : f_X4_dutyInOrderOfIds S = some (sI (fun p => nI (owe S t p)) c) := by
    rw [f_X4_dutyInOrderOfIds, li_0]
    refine lpA (fun n i a => f_X4_dutyInOrderOfIds_L4 S (fun y => some y) n a i) (fun y => some y) (fun p => nI (owe S t p)) c ?_ ?_ (by omega)
    · intro n a
      have cc := h.c1
      simp (disch := omega) only [f_X4_dutyInOrderOfIds_L4, cc, li_0, li_1, li_2, li_3, li_4, li_5, li_6, li_7, li_8, li_9, li_10, li_11, li_12, li_16, li_20, li_23, li_24, li_30, li_32, li_35, li_37, li_40, li_42, li_46, li_48, li_53, li_57, li_58, li_59, li_60, li_63, li_64, li_65, li_97, li_99, li_100, li_101, li_120, li_126, li_132, li_148, li_300, li_999, li_1036, li_1184, li_9999, nn1, nI_leI, nI_ltI, nI_eq, nI_add, pk_mul, pk_sub, nI_clamp, ib_nI, if_pos, if_neg, if_true, if_false, eq_self, ob]
    · intro n i a hi
      rw [f_X4_dutyInOrderOfIds_L4, h.c1, if_neg (nI_ge hi (by omega)), c_dutyOf h.T h.L hc hi, ob, li_1, nI_add]
  have := Option.some.inj (h1.symm.trans e)
  subst this
  exact ⟨e, h2, h5⟩
theorem kinds_sum : ∀ c, (∀ p, p < c → inR (S.2 1 p) 97 101) → sI (fun k => sI (fun p => if S.2 1 p = nI (97 + k) then S.2 2 p else 0) c) 5 = sI (fun p => S.2 2 p) c := by
  intro c
  induction c with
  | zero => intro _; exact sI_0 5
  | succ c ih =>
    intro h
    obtain ⟨k0, a, b, e⟩ := h c (Nat.lt_succ_self c)
    have e1 : sI (fun k => sI (fun p => if S.2 1 p = nI (97 + k) then S.2 2 p else 0) (c + 1)) 5 = sI (fun k => sI (fun p => if S.2 1 p = nI (97 + k) then S.2 2 p else 0) c + if S.2 1 c = nI (97 + k) then S.2 2 c else 0) 5 := rfl
    have e2 : sI (fun k => if S.2 1 c = nI (97 + k) then S.2 2 c else 0) 5 = sI (fun k => if k = k0 - 97 then S.2 2 c else 0) 5 := sI_congr 5 (fun k hk => by
      rw [e]
      by_cases g : k = k0 - 97
      · rw [if_pos g, if_pos (by rw [g]; congr 1; omega)]
      · rw [if_neg g, if_neg (fun z => g (by have := (nI_eq (by omega) (by omega)).mp z; omega))])
    rw [e1, sI_add, ih (fun p hp => h p (by omega)), e2, sI_one, if_pos (by omega)]
    rfl
end GD
