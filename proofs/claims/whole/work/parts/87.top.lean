/-! THE CLASS' STATE AS A WHOLE, and how the model's memory stands to it -/
abbrev oB : Type := Nat × Nat × Nat × Int32 × (Nat → Int32)
abbrev sV : Type := Option ((Nat → Nat) × Mem)
def hM (hs : hS) (j : Nat) : Mem := match hs j with
  | some q => q.2
  | none => zM
def hK (hs : hS) (j : Nat) : Prop := ∃ q, hs j = some q
def TxR (C M : Mem) : Prop := ∃ (t : Nat → Int32) (n : Nat), CT C t n ∧ M.1 3 = nI n ∧ ∀ i, i < n → M.2 5 i = t i
def KeR (K M : Mem) : Prop := K.1 0 = M.1 5 ∧ K.1 1 = M.1 6 ∧ (M.1 5 = -1 ∨ ∃ p, p ≤ 60 ∧ M.1 5 = nI p) ∧ (M.1 6 = -1 ∨ ∃ p, p ≤ 60 ∧ M.1 6 = nI p)
def SvR (N : Nat) (sv : sV) (M : Mem) : Prop := match sv with
  | none => M.1 2 = 0
  | some q => M.1 2 ≠ 0 ∧ St N q.2 (M.2 2)
def OuR (ou : oB) (M : Mem) : Prop := (ou.2.1 = 16 ∨ ou.2.1 = 34) ∧ ou.2.2.1 ≤ ou.2.1 ∧ ou.2.2.1 ≤ 24 ∧ M.1 4 = nI ou.2.2.1 ∧ ∀ i, i < ou.2.2.1 → ∃ c : Nat, c < 128 ∧ ou.2.2.2.2 i = nI c ∧ M.2 7 i = nI c
def Top (N : Nat) (K S C : Mem) (cu ct : Nat) (hs : hS) (sv : sV) (ou : oB) (M : Mem) : Prop :=
  St N S (M.2 0) ∧ HR N (hK hs) (hM hs) cu ct M ∧ TxR C M ∧ KeR K M ∧ SvR N sv M ∧ OuR ou M
theorem St.cp {N : Nat} {T : Mem} {f : Nat → Int32} (s : St N T f) (P0 : Mem) : ∃ P, f_X4_copyFrom P0 T = some P ∧ St N P f := by
  obtain ⟨c, t, q, R, I, D⟩ := s
  obtain ⟨P, h1, h2⟩ := c_copy P0 R I
  exact ⟨P, h1, c, t, q, R.same h2, I.same h2, IdOK.same (h2.1 1 (by omega)) (fun p hp => h2.2.1 0 p hp (by omega)) D⟩
theorem St.cp1 {N : Nat} {T P0 P : Mem} {f : Nat → Int32} (s : St N T f) (h : f_X4_copyFrom P0 T = some P) : St N P f := by
  obtain ⟨P', h1, h2⟩ := s.cp P0
  cases Option.some.inj (h1.symm.trans h)
  exact h2
section TOP
variable {N N' : Nat} {K S C M M' : Mem} {cu ct : Nat} {hs : hS} {sv : sV} {ou : oB}
theorem SvR.fr (h : SvR N sv M) (hN : N ≤ N') (h1 : M'.1 2 = M.1 2) (h2 : ∀ y, M'.2 2 y = M.2 2 y) : SvR N' sv M' := by
  cases sv with
  | none => exact h1.trans h
  | some q => exact ⟨by rw [h1]; exact h.1, (h.2.congr (fun y _ => h2 y)).mono hN⟩
theorem OuR.fr (h : OuR ou M) (h1 : M'.1 4 = M.1 4) (h2 : ∀ y, M'.2 7 y = M.2 7 y) : OuR ou M' := by
  obtain ⟨a, b, c, d, e⟩ := h
  refine ⟨a, b, c, h1.trans d, fun i hi => ?_⟩
  obtain ⟨z, z1, z2, z3⟩ := e i hi
  exact ⟨z, z1, z2, (h2 i).trans z3⟩
theorem KeR.fr (h : KeR K M) (h1 : M'.1 5 = M.1 5) (h2 : M'.1 6 = M.1 6) : KeR K M' := by
  unfold KeR
  rw [h1, h2]
  exact h
theorem TxR.fr (h : TxR C M) (h1 : M'.1 3 = M.1 3) (h2 : ∀ y, M'.2 5 y = M.2 5 y) : TxR C M' := by
  obtain ⟨t, n, a, b, c⟩ := h
  exact ⟨t, n, a, h1.trans b, fun i hi => (h2 i).trans (c i hi)⟩
theorem Top.fr (h : Top N K S C cu ct hs sv ou M) (hN : N ≤ N') (h1 : ∀ k, 1 ≤ k → k ≤ 6 → M'.1 k = M.1 k) (h0 : ∀ y, y < 148 → M'.2 0 y = M.2 0 y) (h2 : ∀ j y, j = 2 ∨ j = 3 ∨ j = 5 ∨ j = 7 → M'.2 j y = M.2 j y) : Top N' K S C cu ct hs sv ou M' := by
  obtain ⟨a, b, c, d, e, f⟩ := h
  exact ⟨(a.congr h0).mono hN, (b.move (h1 1 (by omega) (by omega)) (fun y => h2 3 y (by omega))).mono hN, c.fr (h1 3 (by omega) (by omega)) (fun y => h2 5 y (by omega)), d.fr (h1 5 (by omega) (by omega)) (h1 6 (by omega) (by omega)), e.fr hN (h1 2 (by omega) (by omega)) (fun y => h2 2 y (by omega)), f.fr (h1 4 (by omega) (by omega)) (fun y => h2 7 y (by omega))⟩
theorem Top.ask (h : Top N K S C cu ct hs sv ou M) (f : FmR M M') : Top (N + 64) K S C cu ct hs sv ou M' :=
  h.fr (by omega) (fun k h1 _ => f.1 k (by omega)) f.2.1 (fun j y hj => f.2.2 j y (by omega) (by omega) (by omega) (by omega))
theorem HR.ext {nn nn' : Nat → Prop} {H H' : Nat → Mem} (h : HR N nn H cu ct M) (h1 : ∀ j, nn j → nn' j) (h2 : ∀ j, nn j → H' j = H j) : HR N nn' H' cu ct M :=
  ⟨h.1, h.2.1, h.2.2.1, fun i hi => ⟨h1 _ (h.2.2.2 i hi).1, by rw [h2 _ (h.2.2.2 i hi).1]; exact (h.2.2.2 i hi).2⟩⟩
/-- the place at the cursor is free -/
theorem HR.skip {nn nn' : Nat → Prop} {H H' : Nat → Mem} (h : HR N nn H cu ct M) (h1 : ∀ j, j ≠ cu → nn j → nn' j) (h2 : ∀ j, j ≠ cu → H' j = H j) : HR N nn' H' cu ct M := by
  obtain ⟨a, b, c, d⟩ := h
  refine ⟨a, b, c, fun i hi => ?_⟩
  have hne : (cu + 9 - ct + i) % 9 ≠ cu := by omega
  exact ⟨h1 _ hne (d i hi).1, by rw [h2 _ hne]; exact (d i hi).2⟩
theorem hK_put {b : Nat → Nat} {P : Mem} {j : Nat} : hK (hput hs cu (b, P)) j ↔ hK hs j ∨ j = cu := by
  unfold hK hput
  by_cases e : j = cu
  · simp [e]
  · simp [e]
theorem hM_put {b : Nat → Nat} {P : Mem} {j : Nat} : hM (hput hs cu (b, P)) j = if j = cu then P else hM hs j := by
  unfold hM hput
  by_cases e : j = cu <;> simp [e]
theorem Top.put (h : Top N K S C cu ct hs sv ou M) (b : Nat → Nat) (P : Mem) : Top N K S C cu ct (hput hs cu (b, P)) sv ou M :=
  ⟨h.1, h.2.1.skip (fun j _ hj => hK_put.mpr (Or.inl hj)) (fun j hj => by rw [hM_put, if_neg hj]), h.2.2⟩
/-- a change, refused by both or done by both -/
theorem chg_both {codes : List (Int32 × Int32)} {fc fm : Option (Int32 × Mem)} {ff : Mem → Option (Int32 × Mem)} (h : Top N K S C cu ct hs sv ou M)
    (hfm : fm = (f_X7_remembers M).bind fun M_1 => (ff M_1).bind fun (z : Int32 × Mem) => match z with | (r3, M_4) => (f_X7_ends M_4 r3).bind fun (z : Int32 × Mem) => match z with | (r6, M_7) => some (r6, M_7))
    (hop : ∀ M1 : Mem, St N S (M1.2 0) → Op N S M1 codes fc (ff M1)) (hcodes : ∀ z ∈ codes, z.1 < 0 ∧ z.2 ≠ 0) {b : Nat → Nat} {P0 P : Mem} (hP : f_X4_copyFrom P0 S = some P) :
    (∃ z, z ∈ codes ∧ ∃ M', fc = some (z.1, S) ∧ fm = some (0, M') ∧ M'.1 0 = z.2 ∧ Top (N + 64) K S C cu ct (hput hs cu (b, P)) sv ou M') ∨
    (∃ (r : Nat) (S' M' : Mem), r < 2 ^ 31 ∧ fc = some (nI r, S') ∧ fm = some (nI r, M') ∧ M'.1 0 = nI 0 ∧ Top (N + 64) K S' C (nxt cu) (cap ct) (hput hs cu (b, P)) sv ou M') := by
  obtain ⟨M1, r1, r2, r3, r4⟩ := m_rem M
  have s1 : St N S (M1.2 0) := h.1.congr (fun y _ => r3 0 y (by omega))
  have sP : St N P (M1.2 1) := (h.1.cp1 hP).congr (fun y hy => r4 y hy)
  rcases hop M1 s1 with ⟨z, hz, e1, e2⟩ | ⟨r, S', M', hr, e1, e2, e3, e4, e5⟩
  · refine Or.inl ⟨z, hz, wrI M1 0 z.2, e1, ?_, by rw [wrI_1, if_pos rfl], ?_⟩
    · rw [hfm, r1, ob, e2, ob]
      dsimp only
      rw [f_X7_ends, if_neg (hcodes z hz).2, f_X7_fails, ob]
      rfl
    · refine (h.put b P).fr (by omega) (fun k k1 k2 => ?_) (fun y hy => ?_) (fun j y hj => ?_)
      · rw [wrI_1, if_neg (by omega), r2, if_neg (by omega)]
      · rw [wrI_2, r3 0 y (by omega)]
      · rw [wrI_2, r3 j y (by omega)]
  · have hct : ct ≤ 8 := h.2.1.2.1
    have c1 : M'.1 1 = nI ct := by rw [e4.1 1 (by omega), r2, if_neg (by omega), h.2.1.2.2.1]
    obtain ⟨M2, k1, k2, k3, k4, k5, k6⟩ := m_changed M' hct c1 (nI r)
    refine Or.inr ⟨r, S', M2, hr, e1, ?_, ?_, ?_⟩
    · rw [hfm, r1, ob, e2, ob]
      dsimp only
      rw [f_X7_ends, if_pos rfl, e3, k1, ob]
      rfl
    · rw [k3 0 (by omega), e4.1 0 (by omega), r2, if_pos rfl]
    · have hm : HR N (hK hs) (hM hs) cu ct M' := h.2.1.move (by rw [e4.1 1 (by omega), r2, if_neg (by omega)]) (fun y => by rw [e4.2 3 y (by omega) (by omega), r3 3 y (by omega)])
      have hp : HR N (fun j => hK hs j ∨ j = cu) (fun j => if j = cu then P else hM hs j) (nxt cu) (cap ct) M2 := hm.put (sP.congr (fun y _ => e4.2 1 y (by omega) (by omega))) k2 k5 k6
      have hp2 : HR N (hK (hput hs cu (b, P))) (hM (hput hs cu (b, P))) (nxt cu) (cap ct) M2 := hp.ext (fun j hj => hK_put.mpr hj) (fun j _ => hM_put)
      obtain ⟨a1, a2, a3, a4, a5, a6⟩ := h
      have g1 : ∀ k, 2 ≤ k → k ≤ 6 → M2.1 k = M.1 k := fun k q1 q2 => by rw [k3 k (by omega), e4.1 k (by omega), r2, if_neg (by omega)]
      have g2 : ∀ j y, j = 2 ∨ j = 5 ∨ j = 7 → M2.2 j y = M.2 j y := fun j y hj => by rw [k4 j y (by omega), e4.2 j y (by omega) (by omega), r3 j y (by omega)]
      exact ⟨(e5.congr (fun y _ => k4 0 y (by omega))).mono (by omega), hp2.mono (by omega), a3.fr (g1 3 (by omega) (by omega)) (fun y => g2 5 y (by omega)), a4.fr (g1 5 (by omega) (by omega)) (g1 6 (by omega) (by omega)), a5.fr (by omega) (g1 2 (by omega) (by omega)) (fun y => g2 2 y (by omega)), a6.fr (g1 4 (by omega) (by omega)) (fun y => g2 7 y (by omega))⟩
end TOP
