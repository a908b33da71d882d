/-! THE OUTPUT: the model's text, the class' text -/
/-- M1 is M with the text L written -/
def WrM (M M1 : Mem) (L : List Nat) : Prop := M1.1 4 = nI L.length ∧ (∀ k, k ≠ 4 → M1.1 k = M.1 k) ∧ (∀ j y, j ≠ 7 → M1.2 j y = M.2 j y) ∧ ∀ i, i < L.length → ∃ ch, ch < 128 ∧ L[i]? = some ch ∧ M1.2 7 i = nI ch
theorem dgW : ∀ v < 100, (v < 10 → nI v ≤ 9) ∧ (10 ≤ v → ¬ nI v ≤ 9) ∧ 48 + (nI v - nI v / 10 * 10) = nI (48 + v % 10) ∧ 48 + nI v / 10 = nI (48 + v / 10) := by decide +kernel
theorem dgN_le (v : Nat) : (dgN v).length ≤ 2 := by
  unfold dgN
  split <;> simp
theorem WrM.zero (M : Mem) : WrM M (wrI M 4 0) [] := ⟨by rw [wrI_1, if_pos rfl]; rfl, fun k hk => by rw [wrI_1, if_neg hk], fun _ _ _ => rfl, fun i hi => absurd hi (Nat.not_lt_zero i)⟩
section WRM
variable {M M1 : Mem} {L : List Nat}
theorem WrM.put (h : WrM M M1 L) (hl : L.length < 40) {ch : Nat} (hch : ch < 128) : ∃ M2, f_X7_writes M1 (nI ch) = some M2 ∧ WrM M M2 (L ++ [ch]) := by
  obtain ⟨h1, h2, h3, h4⟩ := h
  have hlen : (L ++ [ch]).length = L.length + 1 := by rw [List.length_append]; rfl
  refine ⟨wrI (wrA M1 7 (nI L.length) (nI ch)) 4 (nI (L.length + 1)), ?_, ?_, fun k hk => ?_, fun j y hj => ?_, fun i hi => ?_⟩
  · rw [f_X7_writes, h1, if_pos (ib_nI hl (by omega)), nI_1]
  · rw [wrI_1, if_pos rfl, hlen]
  · rw [wrI_1, if_neg hk, wrA_1, h2 k hk]
  · rw [wrI_2, wrA_2, if_neg hj, h3 j y hj]
  · rw [wrI_2, wrA_2, if_pos rfl, up_at, nI_clamp (by omega)]
    rw [hlen] at hi
    by_cases e : i = L.length
    · subst e
      exact ⟨ch, hch, by rw [List.getElem?_append_right (by omega), Nat.sub_self]; rfl, if_pos rfl⟩
    · obtain ⟨c1, c2, c3, c4⟩ := h4 i (by omega)
      exact ⟨c1, c2, by rw [List.getElem?_append_left (by omega)]; exact c3, by rw [if_neg e]; exact c4⟩
theorem WrM.num (h : WrM M M1 L) (hl : L.length + 2 ≤ 40) {v : Nat} (hv : v < 100) : ∃ M2, f_X7_writesNumber M1 (nI v) = some M2 ∧ WrM M M2 (L ++ dgN v) := by
  obtain ⟨d1, d2, d3, d4⟩ := dgW v hv
  rcases Nat.lt_or_ge v 10 with h10 | h10
  · obtain ⟨M2, e1, e2⟩ := h.put (by omega) (ch := 48 + v % 10) (by omega)
    refine ⟨M2, ?_, ?_⟩
    · rw [f_X7_writesNumber, if_pos (d1 h10), d3, e1, ob]
    · rw [dgN, if_pos h10]; exact e2
  · obtain ⟨M2, e1, e2⟩ := h.put (by omega) (ch := 48 + v / 10) (by omega)
    obtain ⟨M3, e3, e4⟩ := e2.put (by rw [List.length_append]; show L.length + 1 < 40; omega) (ch := 48 + v % 10) (by omega)
    refine ⟨M3, ?_, ?_⟩
    · rw [f_X7_writesNumber, if_neg (d2 h10), d4, e1, ob, d3, e3, ob]
    · rw [dgN, if_neg (by omega), show L ++ [48 + v / 10, 48 + v % 10] = (L ++ [48 + v / 10]) ++ [48 + v % 10] from by simp]
      exact e4
/-- both hold the same text -/
theorem OuR.of {ou : oB} {M' : Mem} (hT : Tx ou L) (hW : WrM M M' L) (hl : L.length ≤ 24) : OuR ou M' := by
  obtain ⟨t1, t2, t3, t4⟩ := hT
  obtain ⟨w1, -, -, w4⟩ := hW
  refine ⟨t1, by rw [t2]; exact t3, by rw [t2]; exact hl, by rw [t2]; exact w1, fun i hi => ?_⟩
  obtain ⟨a1, a2, a3, a4⟩ := t4 i (by rw [← t2]; exact hi)
  obtain ⟨b1, b2, b3, b4⟩ := w4 i (by rw [← t2]; exact hi)
  obtain rfl := Option.some.inj (a3.symm.trans b3)
  exact ⟨a1, a2, a4, b4⟩
theorem OuR.tx {ou : oB} {M' : Mem} (h : OuR ou M') : ∃ L, Tx ou L := by
  obtain ⟨t1, t2, t3, t4, t5⟩ := h
  refine ⟨(List.range ou.2.2.1).map (fun i => nv (ou.2.2.2.2 i)), t1, by simp, by simpa using t2, fun i hi => ?_⟩
  have hi : i < ou.2.2.1 := by simpa using hi
  obtain ⟨ch, c1, c2, c3⟩ := t5 i hi
  refine ⟨ch, c1, ?_, c2⟩
  rw [List.getElem?_map, List.getElem?_range hi]
  show some (nv (ou.2.2.2.2 i)) = some ch
  rw [c2]
  exact congrArg some (nI_clamp (by omega))
theorem Tx.nil {va cp : Nat} {mb : Int32} {f : Nat → Int32} (h : cp = 16 ∨ cp = 34) : Tx (va, cp, 0, mb, f) [] := ⟨h, rfl, Nat.zero_le _, fun i hi => absurd hi (Nat.not_lt_zero i)⟩
theorem Tx.num_le {va cp n va' cp' n' v : Nat} {mb mb' : Int32} {f f' : Nat → Int32} (h : Tx (va, cp, n, mb, f) L) (h' : Tx (va', cp', n', mb', f') (L ++ dgN v)) : n' ≤ n + 2 := by
  have h1 : n = L.length := h.2.1
  have h2 : n' = (L ++ dgN v).length := h'.2.1
  rw [List.length_append] at h2
  have := dgN_le v
  omega
end WRM
section WTOP
variable {N : Nat} {K S C M M' : Mem} {cu ct : Nat} {hs : hS} {sv : sV} {ou ou' : oB} {L : List Nat}
theorem Top.written (h : Top N K S C cu ct hs sv ou M) (hT : Tx ou' L) (hW : WrM (wrI M 0 0) M' L) (hl : L.length ≤ 24) : Top (N + 64) K S C cu ct hs sv ou' M' ∧ M'.1 0 = nI 0 := by
  have g1 : ∀ k, k ≠ 0 → k ≠ 4 → M'.1 k = M.1 k := fun k a b => by rw [hW.2.1 k b, wrI_1, if_neg a]
  have g2 : ∀ j y, j ≠ 7 → M'.2 j y = M.2 j y := fun j y a => by rw [hW.2.2.1 j y a, wrI_2]
  obtain ⟨a, b, c, d, e, -⟩ := h
  refine ⟨⟨(a.congr (fun y _ => g2 0 y (by omega))).mono (by omega), (b.move (g1 1 (by omega) (by omega)) (fun y => g2 3 y (by omega))).mono (by omega), c.fr (g1 3 (by omega) (by omega)) (fun y => g2 5 y (by omega)), d.fr (g1 5 (by omega) (by omega)) (g1 6 (by omega) (by omega)), e.fr (by omega) (g1 2 (by omega) (by omega)) (fun y => g2 2 y (by omega)), OuR.of hT hW hl⟩, ?_⟩
  rw [hW.2.1 0 (by omega), wrI_1, if_pos rfl]
  rfl
/-- a lot's text -/
def lotTx (k v1 v2 b : Nat) (s5 s6 z : Int32) : List Nat := (([k] ++ dgN v1 ++ [42] ++ dgN v2 ++ [64] ++ dgN b ++ (if s5 = 1 then [35] else [])) ++ (if s6 = 1 then [126] else [])) ++ (if z = -1 then [] else [63])
def LotP (S : Mem) (x : Int32) (p k v1 v2 b : Nat) (z : Int32) : Prop := p < 16 ∧ f_X3_slotWith S x = some (nI p) ∧ (S.2 1 p = nI k ∧ k < 128) ∧ (S.2 2 p = nI v1 ∧ v1 < 100) ∧ (S.2 3 p = nI v2 ∧ v2 < 100) ∧ (S.2 4 p = nI b ∧ b < 100) ∧ (S.2 5 p = 0 ∨ S.2 5 p = 1) ∧ (S.2 6 p = 0 ∨ S.2 6 p = 1) ∧ f_X0_placeOf S x = some z ∧ (z = -1 ∨ ∃ j, j < 16 ∧ z = nI j)
theorem lot_both (h : Top N K S C cu ct hs sv ou M) (x : Int32) : (f_X3_slotWith S x = some (-1) ∧ Thr M 1 (f_X7_writeLot M x)) ∨ ∃ p k v1 v2 b z M', LotP S x p k v1 v2 b z ∧ f_X7_writeLot M x = some (nI (lotTx k v1 v2 b (S.2 5 p) (S.2 6 p) z).length, M') ∧ WrM (wrI M 0 0) M' (lotTx k v1 v2 b (S.2 5 p) (S.2 6 p) z) := by
  have s := h.1
  rcases asked s x with ⟨h1, h2⟩ | ⟨p, c, t, q, hp, hc, R, I, h1, h2, -⟩
  · refine Or.inl ⟨h1, Thr.of 0 ?_⟩
    have h3 := h2 0
    rw [f_X7_asked] at h3
    obtain ⟨c, t, q, R, I, -⟩ := s
    have hpl := r_placeOf R x
    rcases fnd_at (g := S.2 0) (x := x) (c := c) with ⟨k1, -⟩ | ⟨p', k1, k2, k3, k4⟩
    · rw [show plc S c x = none from k1] at hpl
      rw [f_X7_writeLot, hpl, ob, oi_n, if_pos rfl]
      rfl
    · have h4 := c_slotWith R.c1 R.c x
      rw [show fnd (fun p => decide (S.2 0 p = x)) c 0 = some p' from k1, h1] at h4
      exact absurd (Option.some.inj h4).symm (nI_nm1 (p := p') (by have := R.c; omega))
  · refine Or.inr ?_
    have L0 := I.1.1 p hp
    obtain ⟨⟨k, ka, kb, ek⟩, ⟨v1, va1, vb1, ev1⟩, ⟨v2, va2, vb2, ev2⟩, ⟨b, -, bb, eb⟩, f5, f6, -⟩ := L0
    have hpl := r_placeOf R x
    rw [h2] at hpl
    have hz : f_X0_placeOf S x = some (oi (quc S q x)) := c_queue R.q1 R.q x
    have hzc : oi (quc S q x) = -1 ∨ ∃ j, j < 16 ∧ oi (quc S q x) = nI j := by
      rcases fnd_at (g := S.2 9) (x := x) (c := q) with ⟨k1, -⟩ | ⟨j, k1, k2, -⟩
      · rw [show quc S q x = none from k1]; exact Or.inl rfl
      · rw [show quc S q x = some j from k1]; exact Or.inr ⟨j, by have := R.q; omega, rfl⟩
    have hP : LotP S x p k v1 v2 b (oi (quc S q x)) := ⟨by omega, h1, ⟨ek, by omega⟩, ⟨ev1, by omega⟩, ⟨ev2, by omega⟩, ⟨eb, by omega⟩, f5, f6, hz, hzc⟩
    -- the model, letter by letter
    have RR : ∀ {M1 : Mem} {L : List Nat}, WrM (wrI M 0 0) M1 L → Rel S (M1.2 0) c t q := fun {M1 L} w => by
      rw [show M1.2 0 = M.2 0 from funext fun y => by rw [w.2.2.1 0 y (by omega), wrI_2]]
      exact R
    have OF : ∀ {M1 : Mem} {L : List Nat}, WrM (wrI M 0 0) M1 L → ∀ j, j < 7 → f_X7_of M1 (nI p) (nI j) = some (S.2 j p) := fun {M1 L} w j hj => r_of (RR w) hp hj
    have WT : ∀ {M1 : Mem} {L : List Nat}, WrM (wrI M 0 0) M1 L → f_X7_waits M1 x = some (oi (quc S q x)) := fun {M1 L} w => r_waits (RR w) x
    have w0 := WrM.zero (wrI M 0 0)
    obtain ⟨M6, a6, w6⟩ := w0.put (ch := k) (by decide) (by omega)
    obtain ⟨M10, a10, w10⟩ := w6.num (v := v1) (by show 1 + 2 ≤ 40; omega) (by omega)
    have d1 := dgN_le v1
    have d2 := dgN_le v2
    have d3 := dgN_le b
    obtain ⟨M12, a12, w12⟩ := w10.put (ch := 42) (by simp only [List.length_append, List.length_cons, List.length_nil]; omega) (by omega)
    obtain ⟨M16, a16, w16⟩ := w12.num (v := v2) (by simp only [List.length_append, List.length_cons, List.length_nil]; omega) (by omega)
    obtain ⟨M18, a18, w18⟩ := w16.put (ch := 64) (by simp only [List.length_append, List.length_cons, List.length_nil]; omega) (by omega)
    obtain ⟨M22, a22, w22⟩ := w18.num (v := b) (by simp only [List.length_append, List.length_cons, List.length_nil]; omega) (by omega)
    have o1 : f_X7_of (wrI (wrI M 0 0) 4 0) (nI p) 1 = some (nI k) := by rw [← ek]; exact OF w0 1 (by omega)
    have o2 : f_X7_of M6 (nI p) 2 = some (nI v1) := by rw [← ev1]; exact OF w6 2 (by omega)
    have o3 : f_X7_of M12 (nI p) 3 = some (nI v2) := by rw [← ev2]; exact OF w12 3 (by omega)
    have o4 : f_X7_of M18 (nI p) 4 = some (nI b) := by rw [← eb]; exact OF w18 4 (by omega)
    have o5 : f_X7_of M22 (nI p) 5 = some (S.2 5 p) := OF w22 5 (by omega)
    have a12 : f_X7_writes M10 42 = some M12 := a12
    have a18 : f_X7_writes M16 64 = some M18 := a18
    have base : ([] ++ [k] ++ dgN v1 ++ [42] ++ dgN v2 ++ [64] ++ dgN b).length ≤ 9 := by simp only [List.length_append, List.length_cons, List.length_nil]; omega
    -- the seal, the damp, the queue
    obtain ⟨M7, w7, g7⟩ : ∃ M7, WrM (wrI M 0 0) M7 ([] ++ [k] ++ dgN v1 ++ [42] ++ dgN v2 ++ [64] ++ dgN b ++ (if S.2 5 p = 1 then [35] else [])) ∧ ((S.2 5 p = 1 ∧ f_X7_writes M22 35 = some M7) ∨ (¬ S.2 5 p = 1 ∧ M7 = M22)) := by
      by_cases e5 : S.2 5 p = 1
      · obtain ⟨M7, a7, w7⟩ := w22.put (ch := 35) (by omega) (by omega)
        exact ⟨M7, by rw [if_pos e5]; exact w7, Or.inl ⟨e5, a7⟩⟩
      · exact ⟨M22, by rw [if_neg e5, List.append_nil]; exact w22, Or.inr ⟨e5, rfl⟩⟩
    have base7 : ([] ++ [k] ++ dgN v1 ++ [42] ++ dgN v2 ++ [64] ++ dgN b ++ (if S.2 5 p = 1 then [35] else [])).length ≤ 10 := by
      have e1 : (if S.2 5 p = 1 then [35] else ([] : List Nat)).length ≤ 1 := by split <;> simp
      rw [List.length_append]
      omega
    obtain ⟨M8, w8, g8⟩ : ∃ M8, WrM (wrI M 0 0) M8 ([] ++ [k] ++ dgN v1 ++ [42] ++ dgN v2 ++ [64] ++ dgN b ++ (if S.2 5 p = 1 then [35] else []) ++ (if S.2 6 p = 1 then [126] else [])) ∧ ((S.2 6 p = 1 ∧ f_X7_writes M7 126 = some M8) ∨ (¬ S.2 6 p = 1 ∧ M8 = M7)) := by
      by_cases e6 : S.2 6 p = 1
      · obtain ⟨M8, a8, w8⟩ := w7.put (ch := 126) (by omega) (by omega)
        exact ⟨M8, by rw [if_pos e6]; exact w8, Or.inl ⟨e6, a8⟩⟩
      · exact ⟨M7, by rw [if_neg e6, List.append_nil]; exact w7, Or.inr ⟨e6, rfl⟩⟩
    have base8 : ([] ++ [k] ++ dgN v1 ++ [42] ++ dgN v2 ++ [64] ++ dgN b ++ (if S.2 5 p = 1 then [35] else []) ++ (if S.2 6 p = 1 then [126] else [])).length ≤ 11 := by
      have e1 : (if S.2 6 p = 1 then [126] else ([] : List Nat)).length ≤ 1 := by split <;> simp
      rw [List.length_append]
      omega
    obtain ⟨M9, w9, g9⟩ : ∃ M9, WrM (wrI M 0 0) M9 ([] ++ [k] ++ dgN v1 ++ [42] ++ dgN v2 ++ [64] ++ dgN b ++ (if S.2 5 p = 1 then [35] else []) ++ (if S.2 6 p = 1 then [126] else []) ++ (if oi (quc S q x) = -1 then [] else [63])) ∧ ((oi (quc S q x) = -1 ∧ M9 = M8) ∨ (¬ oi (quc S q x) = -1 ∧ f_X7_writes M8 63 = some M9)) := by
      by_cases ez : oi (quc S q x) = -1
      · exact ⟨M8, by rw [if_pos ez, List.append_nil]; exact w8, Or.inl ⟨ez, rfl⟩⟩
      · obtain ⟨M9, a9, w9⟩ := w8.put (ch := 63) (by omega) (by omega)
        exact ⟨M9, by rw [if_neg ez]; exact w9, Or.inr ⟨ez, a9⟩⟩
    have o6 : f_X7_of M7 (nI p) 6 = some (S.2 6 p) := OF w7 6 (by omega)
    have hw := WT w8
    refine ⟨p, k, v1, v2, b, oi (quc S q x), M9, hP, ?_, w9⟩
    have hlen : (nI (lotTx k v1 v2 b (S.2 5 p) (S.2 6 p) (oi (quc S q x))).length) = M9.1 4 := w9.1.symm
    rw [hlen, f_X7_writeLot, hpl, ob, oi_s, if_neg (nI_nm1 (by omega)), o1, ob, a6, ob, o2, ob, a10, ob, a12, ob, o3, ob, a16, ob, a18, ob, o4, ob, a22, ob, o5, ob]
    rcases g7 with ⟨e5, a7⟩ | ⟨e5, rfl⟩
    · rw [if_pos e5, a7, ob, o6, ob]
      rcases g8 with ⟨e6, a8⟩ | ⟨e6, rfl⟩
      · rw [if_pos e6, a8, ob, hw, ob]
        rcases g9 with ⟨ez, rfl⟩ | ⟨ez, a9⟩
        · rw [if_pos ez]
        · rw [if_neg ez, a9, ob]
      · rw [if_neg e6, hw, ob]
        rcases g9 with ⟨ez, rfl⟩ | ⟨ez, a9⟩
        · rw [if_pos ez]
        · rw [if_neg ez, a9, ob]
    · rw [if_neg e5, o6, ob]
      rcases g8 with ⟨e6, a8⟩ | ⟨e6, rfl⟩
      · rw [if_pos e6, a8, ob, hw, ob]
        rcases g9 with ⟨ez, rfl⟩ | ⟨ez, a9⟩
        · rw [if_pos ez]
        · rw [if_neg ez, a9, ob]
      · rw [if_neg e6, hw, ob]
        rcases g9 with ⟨ez, rfl⟩ | ⟨ez, a9⟩
        · rw [if_pos ez]
        · rw [if_neg ez, a9, ob]
theorem lotTx_le (k v1 v2 b : Nat) (s5 s6 z : Int32) : (lotTx k v1 v2 b s5 s6 z).length ≤ 12 := by
  have d1 := dgN_le v1
  have d2 := dgN_le v2
  have d3 := dgN_le b
  unfold lotTx
  simp only [List.length_append, List.length_cons, List.length_nil]
  have e1 : (if s5 = 1 then [35] else ([] : List Nat)).length ≤ 1 := by split <;> simp
  have e2 : (if s6 = 1 then [126] else ([] : List Nat)).length ≤ 1 := by split <;> simp
  have e3 : (if z = -1 then ([] : List Nat) else [63]).length ≤ 1 := by split <;> simp
  omega
/-- a bay's sign -/
theorem sg_low : ∀ k, 97 ≤ k → k ≤ 101 → nI k - 32 = nI (k - 32) ∧ nI k - 0 = nI k ∧ (((nI k - 97) + 65).toUInt32 % 65536).toInt32 = nI (k - 32) := by
  intro k a b
  have : ∀ k < 102, 97 ≤ k → nI k - 32 = nI (k - 32) ∧ nI k - 0 = nI k ∧ (((nI k - 97) + 65).toUInt32 % 65536).toInt32 = nI (k - 32) := by decide +kernel
  exact this k (by omega) a
theorem sign_both (s : St N S (M.2 0)) (x : Nat) (hx : x < 24) : ∃ sg, sg < 128 ∧ f_X3_signOfBay S (nI x) = some (nI sg) ∧ ∀ (M1 : Mem) (L : List Nat), WrM (wrI M 0 0) M1 L → L.length < 40 → ∃ M2, WrM (wrI M 0 0) M2 (L ++ [sg]) ∧ ∀ (k : Mem → Option (Int32 × Mem)) (n : Nat), f_X7_writeBays_L12 k (n + 1) (nI x) M1 = f_X7_writeBays_L12 k n (nI (x + 1)) M2 := by
  obtain ⟨c, t, q, R, I, -⟩ := s
  have RR : ∀ {M1 : Mem} {L : List Nat}, WrM (wrI M 0 0) M1 L → Rel S (M1.2 0) c t q := fun {M1 L} w => by
    rw [show M1.2 0 = M.2 0 from funext fun y => by rw [w.2.2.1 0 y (by omega), wrI_2]]
    exact R
  have h24 : ¬ (24 : Int32) ≤ nI x := nI_ge (a := x) (b := 24) hx (by omega)
  have hsa := c_slotAt R.c1 R.c (nI x)
  rcases fnd_at (g := S.2 4) (x := nI x) (c := c) with ⟨k1, -⟩ | ⟨p, k1, hp, k3, -⟩
  · refine ⟨46, by omega, ?_, fun M1 L w hl => ?_⟩
    · rw [k1, oi_n] at hsa
      rw [f_X3_signOfBay, hsa, ob, if_neg (by decide)]
      rfl
    · obtain ⟨M2, a2, w2⟩ := w.put (ch := 46) hl (by omega)
      refine ⟨M2, w2, fun k n => ?_⟩
      have hin := r_inside (RR w) (nI x)
      rw [show byc S c (nI x) = none from k1, oi_n] at hin
      have a2 : f_X7_writes M1 46 = some M2 := a2
      rw [f_X7_writeBays_L12, if_neg h24, hin, ob, if_pos rfl, a2, ob, nI_1]
  · obtain ⟨⟨kk, ka, kb, ek⟩, -, -, -, f5, f6, -⟩ := I.1.1 p hp
    have hc := R.c
    rw [k1, oi_s] at hsa
    obtain ⟨g1, g2, g3⟩ := sg_low kk ka kb
    have hcl : Int32.toNatClampNeg (nI p) = p := nI_clamp (by omega)
    have hib : ib (nI p) 16 = true := ib_nI (by omega) (by omega)
    have hin : ∀ {M1 : Mem} {L : List Nat}, WrM (wrI M 0 0) M1 L → f_X7_inside M1 (nI x) = some (nI p) := fun {M1 L} w => by
      have := r_inside (RR w) (nI x)
      rw [show byc S c (nI x) = some p from k1, oi_s] at this
      exact this
    have hof : ∀ {M1 : Mem} {L : List Nat}, WrM (wrI M 0 0) M1 L → ∀ j, j < 7 → f_X7_of M1 (nI p) (nI j) = some (S.2 j p) := fun {M1 L} w j hj => r_of (RR w) hp hj
    have hcls : f_X3_signOfBay S (nI x) = (if S.2 6 p = 0 then if S.2 5 p = 0 then some (nI kk) else some (nI (kk - 32)) else some 126) := by
      rw [f_X3_signOfBay, hsa, ob, if_pos (nI_pos' (by omega)), if_pos hib, if_pos hib, if_pos hib, hcl, ek, vnc (by omega), if_pos rfl, g3]
    by_cases e6 : S.2 6 p = 1
    · refine ⟨126, by omega, ?_, fun M1 L w hl => ?_⟩
      · rw [hcls, e6, if_neg (by decide)]
        rfl
      · obtain ⟨M2, a2, w2⟩ := w.put (ch := 126) hl (by omega)
        refine ⟨M2, w2, fun k n => ?_⟩
        have a2 : f_X7_writes M1 126 = some M2 := a2
        have o6 : f_X7_of M1 (nI p) 6 = some (S.2 6 p) := hof w 6 (by omega)
        rw [f_X7_writeBays_L12, if_neg h24, hin w, ob, if_neg (nI_nm1 (by omega)), o6, ob, if_pos e6, a2, ob, nI_1]
    · have e60 : S.2 6 p = 0 := f6.resolve_right e6
      by_cases e5 : S.2 5 p = 1
      · refine ⟨kk - 32, by omega, ?_, fun M1 L w hl => ?_⟩
        · rw [hcls, if_pos e60, e5, if_neg (by decide)]
        · obtain ⟨M2, a2, w2⟩ := w.put (ch := kk - 32) hl (by omega)
          refine ⟨M2, w2, fun k n => ?_⟩
          have o6 : f_X7_of M1 (nI p) 6 = some (S.2 6 p) := hof w 6 (by omega)
          have o1 : f_X7_of M1 (nI p) 1 = some (nI kk) := by rw [← ek]; exact hof w 1 (by omega)
          have o5 : f_X7_of M1 (nI p) 5 = some (S.2 5 p) := hof w 5 (by omega)
          rw [f_X7_writeBays_L12, if_neg h24, hin w, ob, if_neg (nI_nm1 (by omega)), o6, ob, if_neg e6, o1, ob, o5, ob, if_pos e5, g1, a2, ob, nI_1]
      · have e50 : S.2 5 p = 0 := f5.resolve_right e5
        refine ⟨kk, by omega, ?_, fun M1 L w hl => ?_⟩
        · rw [hcls, if_pos e60, if_pos e50]
        · obtain ⟨M2, a2, w2⟩ := w.put (ch := kk) hl (by omega)
          refine ⟨M2, w2, fun k n => ?_⟩
          have o6 : f_X7_of M1 (nI p) 6 = some (S.2 6 p) := hof w 6 (by omega)
          have o1 : f_X7_of M1 (nI p) 1 = some (nI kk) := by rw [← ek]; exact hof w 1 (by omega)
          have o5 : f_X7_of M1 (nI p) 5 = some (S.2 5 p) := hof w 5 (by omega)
          rw [f_X7_writeBays_L12, if_neg h24, hin w, ob, if_neg (nI_nm1 (by omega)), o6, ob, if_neg e6, o1, ob, o5, ob, if_neg e5, g2, a2, ob, nI_1]
theorem bays_both (s : St N S (M.2 0)) : ∃ (sg : Nat → Nat) (M' : Mem), (∀ x, x < 24 → sg x < 128 ∧ f_X3_signOfBay S (nI x) = some (nI (sg x))) ∧ f_X7_writeBays M = some (nI 24, M') ∧ WrM (wrI M 0 0) M' ((List.range 24).map sg) := by
  have H := fun (x : Nat) (hx : x < 24) => sign_both s x hx
  refine ⟨fun x => if hx : x < 24 then Classical.choose (H x hx) else 0, ?_⟩
  generalize hsg : (fun x => if hx : x < 24 then Classical.choose (H x hx) else 0) = sg
  have H2 : ∀ x, (hx : x < 24) → sg x < 128 ∧ f_X3_signOfBay S (nI x) = some (nI (sg x)) ∧ ∀ (M1 : Mem) (L : List Nat), WrM (wrI M 0 0) M1 L → L.length < 40 → ∃ M2, WrM (wrI M 0 0) M2 (L ++ [sg x]) ∧ ∀ (k : Mem → Option (Int32 × Mem)) (n : Nat), f_X7_writeBays_L12 k (n + 1) (nI x) M1 = f_X7_writeBays_L12 k n (nI (x + 1)) M2 := fun x hx => by
    rw [← hsg]
    simp only [dif_pos hx]
    exact Classical.choose_spec (H x hx)
  have go : ∀ x, x ≤ 24 → ∃ M1, WrM (wrI M 0 0) M1 ((List.range x).map sg) ∧ ∀ (k : Mem → Option (Int32 × Mem)), f_X7_writeBays_L12 k 40 (nI 0) (wrI (wrI M 0 0) 4 0) = f_X7_writeBays_L12 k (40 - x) (nI x) M1 := by
    intro x
    induction x with
    | zero => exact fun _ => ⟨_, WrM.zero _, fun k => rfl⟩
    | succ x ih =>
      intro hx
      obtain ⟨M1, w1, e1⟩ := ih (by omega)
      obtain ⟨M2, w2, e2⟩ := (H2 x (by omega)).2.2 M1 _ w1 (by simp; omega)
      refine ⟨M2, by rw [List.range_succ, List.map_append]; exact w2, fun k => ?_⟩
      rw [e1 k, show 40 - x = (40 - (x + 1)) + 1 by omega, e2]
  obtain ⟨M', w', e'⟩ := go 24 (Nat.le_refl _)
  refine ⟨M', fun x hx => ⟨(H2 x hx).1, (H2 x hx).2.1⟩, ?_, w'⟩
  have hl : M'.1 4 = nI 24 := by
    have := w'.1
    simpa using this
  have e2 := e' (fun M_21 => some ((M_21.1 4), M_21))
  rw [f_X7_writeBays]
  refine (show _ = _ from e2).trans ?_
  show f_X7_writeBays_L12 _ (15 + 1) (nI 24) M' = _
  rw [f_X7_writeBays_L12, if_pos (by decide), hl]
/-- a letter of the output -/
theorem out_both (h : Top N K S C cu ct hs sv ou M) (x : Int32) : ((x < 0 ∨ nI ou.2.2.1 ≤ x) ∧ Thr M 1 (f_X7_outputCharacter M x)) ∨ ∃ i ch, i < ou.2.2.1 ∧ x = nI i ∧ ch < 128 ∧ ou.2.2.2.2 i = nI ch ∧ Val M (nI ch) (f_X7_outputCharacter M x) := by
  obtain ⟨o1, o2, o3, o4, o5⟩ := h.2.2.2.2.2
  rcases ix_cases x (n := ou.2.2.1) (by omega) with ⟨h1, h2⟩ | ⟨i, hi, rfl, h2⟩
  · refine Or.inl ⟨h1, Thr.of 0 ?_⟩
    have h2 : f_X7_in x 0 (M.1 4 - 1) = some 0 := by rw [o4]; exact h2
    rw [f_X7_outputCharacter, h2, ob, if_pos rfl]
    rfl
  · obtain ⟨ch, c1, c2, c3⟩ := o5 i hi
    refine Or.inr ⟨i, ch, hi, rfl, c1, c2, Val.of ?_⟩
    have h2 : f_X7_in (nI i) 0 (M.1 4 - 1) = some 1 := by rw [o4]; exact h2
    rw [f_X7_outputCharacter, h2, ob, if_neg (by decide), if_pos (ib_nI (by omega) (by omega)), nI_clamp (by omega), c3, (ch_nar ch c1).2.2.2.1]
    rfl
end WTOP
