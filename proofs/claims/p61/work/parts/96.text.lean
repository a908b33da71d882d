/-! THE OUTPUT: a lot's text -/
theorem dgN_le (v : Nat) : (dgN v).length ≤ 2 := by
  unfold dgN
  split <;> simp
theorem Tx.nil {va cp : Nat} {mb : Int32} {f : Nat → Int32} (h : cp = 16 ∨ cp = 34) : Tx (va, cp, 0, mb, f) [] := ⟨h, rfl, Nat.zero_le _, fun i hi => absurd hi (Nat.not_lt_zero i)⟩
theorem Tx.num_le {L : List Nat} {va cp n va' cp' n' v : Nat} {mb mb' : Int32} {f f' : Nat → Int32} (h : Tx (va, cp, n, mb, f) L) (h' : Tx (va', cp', n', mb', f') (L ++ dgN v)) : n' ≤ n + 2 := by
  have h1 : n = L.length := h.2.1
  have h2 : n' = (L ++ dgN v).length := h'.2.1
  rw [List.length_append] at h2
  have := dgN_le v
  omega
def lotTx (k v1 v2 b : Nat) (s5 s6 z : Int32) : List Nat := (([k] ++ dgN v1 ++ [42] ++ dgN v2 ++ [64] ++ dgN b ++ (if s5 = 1 then [35] else [])) ++ (if s6 = 1 then [126] else [])) ++ (if z = -1 then [] else [63])
def LotP (S : Mem) (x : Int32) (p k v1 v2 b : Nat) (z : Int32) : Prop := p < 16 ∧ f_X3_slotWith S x = some (nI p) ∧ (S.2 1 p = nI k ∧ k < 128) ∧ (S.2 2 p = nI v1 ∧ v1 < 100) ∧ (S.2 3 p = nI v2 ∧ v2 < 100) ∧ (S.2 4 p = nI b ∧ b < 100) ∧ (S.2 5 p = 0 ∨ S.2 5 p = 1) ∧ (S.2 6 p = 0 ∨ S.2 6 p = 1) ∧ f_X0_placeOf S x = some z ∧ (z = -1 ∨ ∃ j, j < 16 ∧ z = nI j)
theorem lotTx_le (k v1 v2 b : Nat) (s5 s6 z : Int32) : (lotTx k v1 v2 b s5 s6 z).length ≤ 12 := by
  have d1 := dgN_le v1
  have d2 := dgN_le v2
  have d3 := dgN_le b
  unfold lotTx
  simp only [List.length_append, List.length_cons, List.length_nil]
  have e1 : (if s5 = 1 then [35] else ([] : List Nat)).length ≤ 1 := by split <;> simp
  have e2 : (if s6 = 1 then [126] else ([] : List Nat)).length ≤ 1 := by split <;> simp
  have e3 : (if z = -1 then ([] : List Nat) else [63]).length ≤ 1 := by split <;> simp
  omega
theorem nI_nm1 {p : Nat} (hp : p < 2 ^ 31) : ¬ nI p = -1 := by
  rw [nI_m1 hp]
  exact id
/-- a lot of the state, its text's parts -/
theorem lot_parts {S M : Mem} {N : Nat} (s : St N S (M.2 0)) {x : Int32} {p0 : Nat} (hx : f_X3_slotWith S x = some (nI p0)) (hp0 : p0 < 16) : ∃ k v1 v2 b z, LotP S x p0 k v1 v2 b z := by
  rcases asked s x with ⟨h1, h2⟩ | ⟨p, c, t, q, hp, hc, R, I, h1, h2, -⟩
  · exact absurd (Option.some.inj (hx.symm.trans h1)) (nI_nm1 (by omega))
  · have e0 := (nI_eq (by omega) (by omega)).mp (Option.some.inj (hx.symm.trans h1))
    subst e0
    have L0 := I.1.1 p0 hp
    obtain ⟨⟨k, ka, kb, ek⟩, ⟨v1, va1, vb1, ev1⟩, ⟨v2, va2, vb2, ev2⟩, ⟨b, -, bb, eb⟩, f5, f6, -⟩ := L0
    have hz : f_X0_placeOf S x = some (oi (quc S q x)) := c_queue R.q1 R.q x
    have hzc : oi (quc S q x) = -1 ∨ ∃ j, j < 16 ∧ oi (quc S q x) = nI j := by
      rcases fnd_at (g := S.2 9) (x := x) (c := q) with ⟨k1, -⟩ | ⟨j, k1, k2, -⟩
      · rw [show quc S q x = none from k1]; exact Or.inl rfl
      · rw [show quc S q x = some j from k1]; exact Or.inr ⟨j, by have := R.q; omega, rfl⟩
    exact ⟨k, v1, v2, b, oi (quc S q x), by omega, h1, ⟨ek, by omega⟩, ⟨ev1, by omega⟩, ⟨ev2, by omega⟩, ⟨eb, by omega⟩, f5, f6, hz, hzc⟩
