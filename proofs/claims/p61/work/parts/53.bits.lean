/-! sets of bays: a bit for a bay -/
def bt (x : Int32) (b : Nat) : Bool := !decide ((x >>> (nI b &&& 31)) &&& 1 = 0)
theorem or_shr (x y s : Int32) : (x ||| y) >>> s = (x >>> s) ||| (y >>> s) := by
  apply Int32.toBitVec_inj.mp
  simp only [Int32.toBitVec_shiftRight, Int32.toBitVec_or]
  exact BitVec.sshiftRight_or_distrib _ _ _
theorem and1 (x : Int32) : x &&& 1 = 0 ∨ x &&& 1 = 1 := by
  obtain ⟨j, h1, h2⟩ := pk_andE x (m := 1) 1 rfl
  rw [h2]
  have : j = 0 ∨ j = 1 := by omega
  rcases this with e | e <;> subst e
  · exact Or.inl rfl
  · exact Or.inr rfl
theorem shl_at : ∀ a b : Nat, a < 24 → b < 24 → (((1 : Int32) <<< (nI a &&& 31)) >>> (nI b &&& 31)) &&& 1 = if a = b then 1 else 0 := by
  have h : (List.range 24).all (fun a => (List.range 24).all (fun b => decide ((((1 : Int32) <<< (nI a &&& 31)) >>> (nI b &&& 31)) &&& 1 = if a = b then 1 else 0))) = true := by decide +kernel
  intro a b ha hb
  have h1 := List.all_eq_true.mp h a (List.mem_range.mpr ha)
  have h2 := List.all_eq_true.mp h1 b (List.mem_range.mpr hb)
  simpa using h2
theorem or_and (x y z : Int32) : (x ||| y) &&& z = (x &&& z) ||| (y &&& z) := by
  apply Int32.toBitVec_inj.mp
  simp only [Int32.toBitVec_and, Int32.toBitVec_or]
  ext i hi
  simp only [BitVec.getElem_and, BitVec.getElem_or]
  exact Bool.and_or_distrib_right _ _ _
theorem bt_or {x : Int32} {a b : Nat} (ha : a < 24) (hb : b < 24) : bt (x ||| ((1 : Int32) <<< (nI a &&& 31))) b = (bt x b || decide (a = b)) := by
  unfold bt
  rw [or_shr, or_and, shl_at a b ha hb]
  by_cases e : a = b
  · rw [if_pos e]
    rcases and1 (x >>> (nI b &&& 31)) with h | h <;> rw [h] <;> simp [e]
  · rw [if_neg e]
    rcases and1 (x >>> (nI b &&& 31)) with h | h <;> rw [h] <;> simp [e]
theorem bt_0 : ∀ b, b < 24 → bt 0 b = false := by
  have h : (List.range 24).all (fun b => !bt 0 b) = true := by decide +kernel
  intro b hb
  have h1 := List.all_eq_true.mp h b (List.mem_range.mpr hb)
  simpa using h1
theorem hb_ok (x : Int32) {b : Nat} (hb : b < 24) : f_X6_hasBay x (nI b) = some (if bt x b = true then 1 else 0) := by
  have h1 : f_X6_isBay (nI b) = some 1 := by simp (disch := omega) only [f_X6_isBay, li_0, li_1, li_2, li_3, li_4, li_5, li_6, li_7, li_8, li_9, li_10, li_11, li_12, li_16, li_20, li_23, li_24, li_30, li_32, li_35, li_37, li_40, li_42, li_46, li_48, li_53, li_57, li_58, li_59, li_60, li_63, li_64, li_65, li_97, li_99, li_100, li_101, li_120, li_126, li_132, li_148, li_300, li_999, li_1036, li_1184, li_9999, nn1, nI_leI, nI_ltI, nI_eq, nI_add, pk_mul, pk_sub, nI_clamp, ib_nI, if_pos, if_neg, if_true, if_false, eq_self, ob]
  unfold f_X6_hasBay
  rw [h1, ob, if_neg (by decide)]
  unfold bt
  by_cases e : (x >>> (nI b &&& 31)) &&& 1 = 0
  · rw [if_pos e]
    simp [e]
  · rw [if_neg e]
    simp [e]
theorem hb_m1 (x : Int32) : f_X6_hasBay x (-1) = some 0 := by
  have h1 : f_X6_isBay (-1) = some 0 := by decide +kernel
  unfold f_X6_hasBay
  rw [h1, ob, if_pos rfl]
theorem hb_24 (x : Int32) : f_X6_hasBay x (nI 24) = some 0 := by
  have h1 : f_X6_isBay (nI 24) = some 0 := by decide +kernel
  unfold f_X6_hasBay
  rw [h1, ob, if_pos rfl]
/-- a bay of one of the first n lots with g -/
def Bay (S : Mem) (g : Nat → Prop) (n b : Nat) : Prop := ∃ p, p < n ∧ S.2 4 p = nI b ∧ g p
theorem Bay.s {S : Mem} {g : Nat → Prop} {n b : Nat} : Bay S g (n + 1) b ↔ Bay S g n b ∨ (S.2 4 n = nI b ∧ g n) := by
  refine ⟨fun ⟨p, h1, h2, h3⟩ => ?_, fun h => ?_⟩
  · by_cases e : p = n
    · exact Or.inr (e ▸ ⟨h2, h3⟩)
    · exact Or.inl ⟨p, by omega, h2, h3⟩
  · rcases h with ⟨p, h1, h2, h3⟩ | ⟨h1, h2⟩
    · exact ⟨p, by omega, h2, h3⟩
    · exact ⟨n, by omega, h1, h2⟩
theorem c_baysOfDamp {S : Mem} {c : Nat} (hc : S.1 0 = nI c) (h : c ≤ 16) (L : LotsOK S c) : ∃ x, f_X3_baysOfDamp S = some x ∧ ∀ b, b < 24 → (bt x b = true ↔ Bay S (fun p => S.2 6 p = 1) c b) := by
  unfold f_X3_baysOfDamp
  rw [li_0]
  have H := lpI (fun n i a => f_X3_baysOfDamp_L4 S (fun y => some y) n a i) (fun y => some y) (fun i a => ∀ b, b < 24 → (bt a b = true ↔ Bay S (fun p => S.2 6 p = 1) i b)) c ?_ ?_ c 40 0 0 (by omega) (by omega) (fun b hb => ?_)
  · obtain ⟨a, h1, h2⟩ := H
    exact ⟨a, h2, h1⟩
  · intro n a _
    simp (disch := omega) only [f_X3_baysOfDamp_L4, hc, nI_leI, nI_ltI, nI_eq, nI_add, pk_mul, pk_sub, nI_clamp, ib_nI, if_pos, if_neg, if_true, if_false, eq_self, ob]
  · intro n i a hi ha
    rcases (L.1 i hi).2.2.2.2.2.1 with e | e
    · refine ⟨a, fun b hb => ?_, ?_⟩
      · rw [ha b hb, Bay.s]
        refine ⟨Or.inl, fun h => ?_⟩
        rcases h with h | ⟨-, h⟩
        · exact h
        · rw [e] at h
          exact absurd h (by decide)
      · simp (disch := omega) only [f_X3_baysOfDamp_L4, hc, e, nI_leI, nI_ltI, nI_eq, nI_add, pk_mul, pk_sub, nI_clamp, ib_nI, if_pos, if_neg, if_true, if_false, eq_self, ob, li_1]
    · obtain ⟨k, -, hk, ek⟩ := (L.1 i hi).2.2.2.1
      refine ⟨a ||| ((1 : Int32) <<< (nI k &&& 31)), fun b hb => ?_, ?_⟩
      · rw [bt_or (by omega) hb, Bay.s, Bool.or_eq_true, ha b hb, decide_eq_true_eq]
        refine or_congr Iff.rfl ⟨fun h => ⟨by rw [ek, h], e⟩, fun h => ?_⟩
        have := h.1.symm.trans ek
        rw [nI_eq (by omega) (by omega)] at this
        exact this.symm
      · simp (disch := omega) only [f_X3_baysOfDamp_L4, hc, e, ek, n11, if_false, nI_leI, if_neg, ib_nI, if_true, nI_clamp]
        rw [li_1, nI_add]
  · rw [bt_0 b hb]
    exact ⟨fun h => absurd h (by decide), fun ⟨p, hp, _⟩ => absurd hp (by omega)⟩
theorem c_baysOfOpen {S : Mem} {c : Nat} (hc : S.1 0 = nI c) (h : c ≤ 16) (L : LotsOK S c) : ∃ x, f_X3_baysOfOpen S = some x ∧ ∀ b, b < 24 → (bt x b = true ↔ Bay S (fun p => S.2 5 p = 0) c b) := by
  unfold f_X3_baysOfOpen
  rw [li_0]
  have H := lpI (fun n i a => f_X3_baysOfOpen_L4 S (fun y => some y) n a i) (fun y => some y) (fun i a => ∀ b, b < 24 → (bt a b = true ↔ Bay S (fun p => S.2 5 p = 0) i b)) c ?_ ?_ c 40 0 0 (by omega) (by omega) (fun b hb => ?_)
  · obtain ⟨a, h1, h2⟩ := H
    exact ⟨a, h2, h1⟩
  · intro n a _
    simp (disch := omega) only [f_X3_baysOfOpen_L4, hc, nI_leI, nI_ltI, nI_eq, nI_add, pk_mul, pk_sub, nI_clamp, ib_nI, if_pos, if_neg, if_true, if_false, eq_self, ob]
  · intro n i a hi ha
    rcases (L.1 i hi).2.2.2.2.1 with e | e
    · obtain ⟨k, -, hk, ek⟩ := (L.1 i hi).2.2.2.1
      refine ⟨a ||| ((1 : Int32) <<< (nI k &&& 31)), fun b hb => ?_, ?_⟩
      · rw [bt_or (by omega) hb, Bay.s, Bool.or_eq_true, ha b hb, decide_eq_true_eq]
        refine or_congr Iff.rfl ⟨fun h => ⟨by rw [ek, h], e⟩, fun h => ?_⟩
        have := h.1.symm.trans ek
        rw [nI_eq (by omega) (by omega)] at this
        exact this.symm
      · simp (disch := omega) only [f_X3_baysOfOpen_L4, hc, e, ek, if_false, nI_leI, if_neg, ib_nI, if_true, nI_clamp]
        rw [li_1, nI_add]
    · refine ⟨a, fun b hb => ?_, ?_⟩
      · rw [ha b hb, Bay.s]
        refine ⟨Or.inl, fun h => ?_⟩
        rcases h with h | ⟨-, h⟩
        · exact h
        · rw [e] at h
          exact absurd h (by decide)
      · simp (disch := omega) only [f_X3_baysOfOpen_L4, hc, e, n11, nI_leI, nI_ltI, nI_eq, nI_add, pk_mul, pk_sub, nI_clamp, ib_nI, if_pos, if_neg, if_true, if_false, eq_self, ob, li_1, n1z]
  · rw [bt_0 b hb]
    exact ⟨fun h => absurd h (by decide), fun ⟨p, hp, _⟩ => absurd hp (by omega)⟩
